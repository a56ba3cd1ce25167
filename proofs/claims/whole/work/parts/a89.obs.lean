/-! what is answered -/
abbrev K4 (k : Int) : Prop := 0 ≤ k ∧ k ≤ 400
def gd (P : Prop) (x : Int) (Q : Int → Prop) (v : Int) : Prop := (P → Q v) ∧ (¬ P → v = x)
theorem gd_y {P : Prop} {x v : Int} {Q : Int → Prop} (h : P) (q : Q v) : gd P x Q v := ⟨fun _ => q, fun z => absurd h z⟩
theorem gd_n {P : Prop} {x : Int} {Q : Int → Prop} (h : ¬ P) : gd P x Q x := ⟨fun z => absurd z h, fun _ => rfl⟩
theorem gd_u {P : Prop} {x v v' : Int} {Q : Int → Prop} (u : ∀ v v', Q v → Q v' → v = v') (h : gd P x Q v) (g : gd P x Q v') : v = v' := by
  by_cases q : P
  · exact u v v' (h.1 q) (g.1 q)
  · rw [h.2 q, g.2 q]
def sel (b : Bk) (Ks : Nat → Kd) (nk : Nat) (k : Int) (c ch : Nat) : Prop := isB (KK b k) 6724 c ∧ isCh (vL (aL b k Ks nk c)) (bL (aL b k Ks nk c)) (aN b k Ks nk c) ch
theorem sel_u {b : Bk} {Ks : Nat → Kd} {nk : Nat} {k : Int} {c ch c' ch' : Nat} (h : sel b Ks nk k c ch) (g : sel b Ks nk k c' ch') : c = c' ∧ ch = ch' := by
  obtain rfl := isB_u h.1 g.1
  exact ⟨rfl, isCh_u h.2 g.2⟩
def o1 (b : Bk) (k : Int) (F : Nat → Int) (v : Int) : Prop := ∃ c, isB (KK b k) 6724 c ∧ v = F c
def o2 (b : Bk) (Ks : Nat → Kd) (nk : Nat) (k : Int) (F : Nat → Nat → Int) (v : Int) : Prop := ∃ c ch, sel b Ks nk k c ch ∧ v = F c ch
theorem o1_u {b : Bk} {k : Int} {F : Nat → Int} {v v' : Int} (h : o1 b k F v) (g : o1 b k F v') : v = v' := by
  obtain ⟨c, h1, h2⟩ := h
  obtain ⟨d, g1, g2⟩ := g
  rw [h2, g2, isB_u h1 g1]
theorem o2_u {b : Bk} {Ks : Nat → Kd} {nk : Nat} {k : Int} {F : Nat → Nat → Int} {v v' : Int} (h : o2 b Ks nk k F v) (g : o2 b Ks nk k F v') : v = v' := by
  obtain ⟨c, d, h1, h2⟩ := h
  obtain ⟨c', d', g1, g2⟩ := g
  obtain ⟨e1, e2⟩ := sel_u h1 g1
  rw [h2, g2, e1, e2]
abbrev aPh (b : Bk) (Ks : Nat → Kd) (nk : Nat) (k : Int) (c ch : Nat) (a cn rv : Int) (ro : Nat → Int) : Prop := phS (aMt b k Ks nk c ch) (aLt b k Ks nk c ch) (aC b k Ks nk c ch) a cn rv ro
abbrev aSt (b : Bk) (Ks : Nat → Kd) (nk : Nat) (k : Int) (c ch : Nat) (a hs : Int) (ea la : Nat → Int) : Prop := stS (aMt b k Ks nk c ch) (aLt b k Ks nk c ch) (aC b k Ks nk c ch) (lfM Ks (aL b k Ks nk c) ch (aN b k Ks nk c)) (e0M b k c (aL b k Ks nk c) ch (aN b k Ks nk c) b.dn) (l0M b k c (aL b k Ks nk c) ch (aN b k Ks nk c) b.dn) a hs ea la
/-- the member that a number tells of -/
def mbW (ch N : Nat) (x : Int) : Int := if 0 ≤ x ∧ x ≤ 23 then mbI ch N x.toNat else -1
theorem mbW_r {ch N : Nat} {x : Int} : mbW ch N x = -1 ∨ ∃ i : Nat, i < chN ch N ∧ mbW ch N x = (i : Int) := by
  unfold mbW
  by_cases q : 0 ≤ x ∧ x ≤ 23
  · rw [if_pos q]
    unfold mbI
    by_cases w : x.toNat < N ∧ ch.testBit x.toNat = true
    · rw [if_pos w]; exact Or.inr ⟨_, chb_lt w.1 w.2, rfl⟩
    · rw [if_neg w]; exact Or.inl rfl
  · rw [if_neg q]; exact Or.inl rfl
section
variable (b : Bk) (Ks : Nat → Kd) (nk : Nat) (k : Int)
def frW (w : Int) (c : Nat) : Int := if w = 0 then ((c / 1681 : Nat) : Int) else if w = 1 then ((c / 41 % 41 : Nat) : Int) - 20 else if w = 2 then ((c % 41 : Nat) : Int) - 20 else (hitN b k ((c / 1681 : Nat) : Int) (((c / 41 % 41 : Nat) : Int) - 20) (((c % 41 : Nat) : Int) - 20) : Int)
def spW (h : Nat) (w : Int) (c : Nat) : Int := if w = 0 then (if thr b k h then fdX b c h else -1000) else if w = 1 then (if thr b k h then fdY b c h else -1000) else if w = 2 then owO b k c h else if w = 3 then (if owO b k c h = -1 then -1 else fulO b k c (owO b k c h).toNat) else (if owO b k c h = (h : Int) then 1 else 0)
def hoW (h w : Int) (c ch : Nat) : Int := if 0 ≤ h ∧ h < (aN b k Ks nk c : Int) ∧ 0 ≤ w ∧ w ≤ 10 then (if w = 10 then bi (ch.testBit h.toNat) else if w = 1 ∨ w = 2 ∨ w = 3 then (spS b k c).h ((aL b k Ks nk c) h.toNat w.toNat).toNat else (aL b k Ks nk c) h.toNat w.toNat) else -1000
def plcW (h i j : Int) (c : Nat) : Int := if 0 ≤ h ∧ h < (aN b k Ks nk c : Int) ∧ (0 ≤ i ∧ i < (aL b k Ks nk c) h.toNat 4) ∧ 0 ≤ j ∧ j < (Ks ((aL b k Ks nk c) h.toNat 0).toNat).l 0 then (if plO b k (spS b k c) (Ks ((aL b k Ks nk c) h.toNat 0).toNat) ((aL b k Ks nk c) h.toNat 1).toNat ((aL b k Ks nk c) h.toNat 2).toNat ((aL b k Ks nk c) h.toNat 3).toNat i.toNat j.toNat < 0 then plO b k (spS b k c) (Ks ((aL b k Ks nk c) h.toNat 0).toNat) ((aL b k Ks nk c) h.toNat 1).toNat ((aL b k Ks nk c) h.toNat 2).toNat ((aL b k Ks nk c) h.toNat 3).toNat i.toNat j.toNat else (spS b k c).h (plO b k (spS b k c) (Ks ((aL b k Ks nk c) h.toNat 0).toNat) ((aL b k Ks nk c) h.toNat 1).toNat ((aL b k Ks nk c) h.toNat 2).toNat ((aL b k Ks nk c) h.toNat 3).toNat i.toNat j.toNat).toNat) else -1000
def exW (w : Int) (c ch : Nat) : Int := if w = 0 then (aC b k Ks nk c ch : Int) else chV (vL (aL b k Ks nk c)) ch (aN b k Ks nk c)
def paW (g h w : Int) (c ch : Nat) : Int := if mbW ch (aN b k Ks nk c) g = -1 ∨ mbW ch (aN b k Ks nk c) h = -1 ∨ mbW ch (aN b k Ks nk c) g = mbW ch (aN b k Ks nk c) h then -1 else bi (if w = 0 then aMt b k Ks nk c ch (mbW ch (aN b k Ks nk c) g).toNat (mbW ch (aN b k Ks nk c) h).toNat else aLt b k Ks nk c ch (mbW ch (aN b k Ks nk c) g).toNat (mbW ch (aN b k Ks nk c) h).toNat)
def leW (h : Nat) (w : Int) (c ch : Nat) : Int := if soO b k c h = -1 then (if w = 1 then -1 else if thr b k h then 1 else 0) else if memH b k c (aL b k Ks nk c) ch (aN b k Ks nk c) h ≠ -1 then (if w = 0 then 2 else memH b k c (aL b k Ks nk c) ch (aN b k Ks nk c) h) else if (fnS (spS b k c) (lz0 (aL b k Ks nk c) ch (aN b k Ks nk c)) 40).2 (soO b k c h).toNat ≠ -1 then (if w = 0 then 3 else (fnS (spS b k c) (lz0 (aL b k Ks nk c) ch (aN b k Ks nk c)) 40).2 (soO b k c h).toNat) else (if w = 0 then 4 else -1)
/-- answers that hang on phases and starts -/
def o4 (w : Int) (v : Int) : Prop := ∃ c ch a cn rv ro, sel b Ks nk k c ch ∧ aPh b Ks nk k c ch a cn rv ro ∧ v = if a = 0 then -1 else if w = 0 then cn else rv
def o6 (h : Int) (v : Int) : Prop := ∃ c ch a cn rv ro, sel b Ks nk k c ch ∧ aPh b Ks nk k c ch a cn rv ro ∧ v = if mbW ch (aN b k Ks nk c) h = -1 ∨ a = 0 then -1 else ro (mbW ch (aN b k Ks nk c) h).toNat
def o7 (h w : Int) (v : Int) : Prop := ∃ c ch a cn rv ro hs ea la, sel b Ks nk k c ch ∧ aPh b Ks nk k c ch a cn rv ro ∧ aSt b Ks nk k c ch a hs ea la ∧ v = if mbW ch (aN b k Ks nk c) h = -1 ∨ hs = 0 then -1 else if w = 0 then ea (mbW ch (aN b k Ks nk c) h).toNat else la (mbW ch (aN b k Ks nk c) h).toNat
def o8 (y w : Int) (v : Int) : Prop := ∃ c ch a cn rv ro hs ea na, sel b Ks nk k c ch ∧ aPh b Ks nk k c ch a cn rv ro ∧ aSt b Ks nk k c ch a hs ea (fun i => - na i) ∧ v = if hs = 0 then -1 else if w = 0 then (cntB (suP ea na (lfM Ks (aL b k Ks nk c) ch (aN b k Ks nk c)) y) (aC b k Ks nk c ch) : Int) else (mxW (gM (rlB (aMt b k Ks nk c ch) (aLt b k Ks nk c ch)) (aC b k Ks nk c ch)) (bitsN (abP ea na (lfM Ks (aL b k Ks nk c) ch (aN b k Ks nk c)) y) (aC b k Ks nk c ch)) (bitsN (abP ea na (lfM Ks (aL b k Ks nk c) ch (aN b k Ks nk c)) y) (aC b k Ks nk c ch)) 0 : Int)
end
section
variable {b : Bk} {Ks : Nat → Kd} {nk : Nat} {k : Int}
theorem o4_u {w v v' : Int} (h : o4 b Ks nk k w v) (g : o4 b Ks nk k w v') : v = v' := by
  obtain ⟨c, ch, a, cn, rv, ro, h1, h2, h3⟩ := h
  obtain ⟨c', ch', a', cn', rv', ro', g1, g2, g3⟩ := g
  obtain ⟨rfl, rfl⟩ := sel_u h1 g1
  obtain ⟨e1, e2, e3⟩ := phS_u h2 g2 mtM_cm
  rw [h3, g3, ← e1]
  by_cases q : a = 0
  · rw [if_pos q, if_pos q]
  · obtain ⟨y1, y2, _⟩ := e3 (by omega)
    rw [if_neg q, if_neg q, y1, y2]
theorem o6_u {h v v' : Int} (hh : o6 b Ks nk k h v) (g : o6 b Ks nk k h v') : v = v' := by
  obtain ⟨c, ch, a, cn, rv, ro, h1, h2, h3⟩ := hh
  obtain ⟨c', ch', a', cn', rv', ro', g1, g2, g3⟩ := g
  obtain ⟨rfl, rfl⟩ := sel_u h1 g1
  obtain ⟨e1, e2, e3⟩ := phS_u h2 g2 mtM_cm
  rw [h3, g3, ← e1]
  by_cases q : mbW ch (aN b k Ks nk c) h = -1 ∨ a = 0
  · rw [if_pos q, if_pos q]
  · rw [if_neg q, if_neg q]
    obtain ⟨i, i1, i2⟩ := (mbW_r (ch := ch) (N := aN b k Ks nk c) (x := h)).resolve_left (fun z => q (Or.inl z))
    rw [i2, Int.toNat_natCast]
    exact (e3 (by omega)).2.2 i i1
theorem a_ph {c ch : Nat} {a cn rv : Int} {ro : Nat → Int} (h : aPh b Ks nk k c ch a cn rv ro) : a = 0 ∨ (a = 1 ∧ ∃ m f0 t, isPh (aMt b k Ks nk c ch) (aLt b k Ks nk c ch) (aC b k Ks nk c ch) m f0 t) := by
  rcases h with h | ⟨h1, m, f0, t, h2, _⟩
  · exact Or.inl h.1
  · exact Or.inr ⟨h1, m, f0, t, h2⟩
theorem a_hs {c ch : Nat} {a cn rv hs : Int} {ro ea la : Nat → Int} (h : aPh b Ks nk k c ch a cn rv ro) (g : aSt b Ks nk k c ch a hs ea la) (z : hs ≠ 0) : a = 1 := (a_ph h).elim (fun y => absurd (g.1 y) z) (fun y => y.1)
theorem o7_u {h w v v' : Int} (hh : o7 b Ks nk k h w v) (g : o7 b Ks nk k h w v') : v = v' := by
  obtain ⟨c, ch, a, cn, rv, ro, hs, ea, la, h1, h2, h3, h4⟩ := hh
  obtain ⟨c', ch', a', cn', rv', ro', hs', ea', la', g1, g2, g3, g4⟩ := g
  obtain ⟨rfl, rfl⟩ := sel_u h1 g1
  obtain ⟨e1, e2, e3⟩ := phS_u h2 g2 mtM_cm
  subst e1
  obtain ⟨s1, s2⟩ := stS_u h3 g3 (a_ph h2)
  rw [h4, g4, ← s1]
  by_cases q : mbW ch (aN b k Ks nk c) h = -1 ∨ hs = 0
  · rw [if_pos q, if_pos q]
  · rw [if_neg q, if_neg q]
    obtain ⟨i, i1, i2⟩ := (mbW_r (ch := ch) (N := aN b k Ks nk c) (x := h)).resolve_left (fun z => q (Or.inl z))
    rw [i2, Int.toNat_natCast]
    have := s2 (a_hs h2 h3 (fun z => q (Or.inr z))) i i1
    rw [this.1, this.2]
theorem o8_u {y w v v' : Int} (hh : o8 b Ks nk k y w v) (g : o8 b Ks nk k y w v') : v = v' := by
  obtain ⟨c, ch, a, cn, rv, ro, hs, ea, la, h1, h2, h3, h4⟩ := hh
  obtain ⟨c', ch', a', cn', rv', ro', hs', ea', la', g1, g2, g3, g4⟩ := g
  obtain ⟨rfl, rfl⟩ := sel_u h1 g1
  obtain ⟨e1, e2, e3⟩ := phS_u h2 g2 mtM_cm
  subst e1
  obtain ⟨s1, s2⟩ := stS_u h3 g3 (a_ph h2)
  rw [h4, g4, ← s1]
  by_cases q : hs = 0
  · rw [if_pos q, if_pos q]
  · rw [if_neg q, if_neg q]
    have s3 := s2 (a_hs h2 h3 q)
    have x1 : ∀ i, i < aC b k Ks nk c ch → suP ea la (lfM Ks (aL b k Ks nk c) ch (aN b k Ks nk c)) y i = suP ea' la' (lfM Ks (aL b k Ks nk c) ch (aN b k Ks nk c)) y i := fun i hi => by
      unfold suP
      have z1 := (s3 i hi).1
      have z2 : - la i = - la' i := (s3 i hi).2
      rw [z1, z2]
    have x2 : ∀ i, i < aC b k Ks nk c ch → abP ea la (lfM Ks (aL b k Ks nk c) ch (aN b k Ks nk c)) y i = abP ea' la' (lfM Ks (aL b k Ks nk c) ch (aN b k Ks nk c)) y i := fun i hi => by
      unfold abP
      have z1 := (s3 i hi).1
      have z2 : - la i = - la' i := (s3 i hi).2
      rw [z1, z2]
    rw [cntB_congr x1, bn_x x2]
end
/-! the class's answers: what is kept -/
def svX (b : Bk) (Ks : Nat → Kd) (nk : Nat) (X : VV) (Q : RR) : Prop := ∃ ρ c ch, rwI Q ρ ∧ svC b (X 30 7) Ks nk c ρ ch (X 30 8) X Q
def rchA (b : Bk) (Ks : Nat → Kd) (nk : Nat) (k : Int) (t : Int) (V : VV) : Option AV → VV → RR → Prop := fun r X Q => FinR Q ∧ Bd X ∧ chg [(31, 98)] [(30, 7, 8), (30, 12, 13)] V X ∧ r = some (vi (bi (decide (K4 k)))) ∧ svX b Ks nk X Q ∧ (K4 k → t ≤ X 30 8 ∧ sameW b (X 30 7) k)
theorem R_X9_reachA {G : GG} {V : VV} {R : RR} {b : Bk} {Ks : Nat → Kd} {nk : Nat} {k t : Int} (hB : Bd V) (hF : FinR R) (bCV : bC b V) (hob : okB b Ks nk) (hic : icB b Ks nk V) (hs : svX b Ks nk V R) (hk : r32 k) (ht : 1 ≤ t ∧ t ≤ 5) : Runs G M_X9_reach 40 162 162 [vr 30, vi k, vi t] V R (rchA b Ks nk k t V) := by
  by_cases q : K4 k
  · obtain ⟨ρ, c, ch, h1, h2⟩ := hs
    have h := R_X9_reach (G := G) (b := b) (Ks := Ks) (nk := nk) (kk := k.toNat) (t := t.toNat) (c0 := c) (ch0 := ch) (ρ0 := ρ) hB hF bCV hob hic (by omega) (by omega) h1 h2
    rw [show ((k.toNat : Nat) : Int) = k from by omega, show ((t.toNat : Nat) : Int) = t from by omega] at h
    refine h.mono fun r X Q hq => ?_
    obtain ⟨a1, a2, a3, a4, a5, a6, ρ', c', ch', a7, a8⟩ := hq
    refine ⟨a1, a2, a3, by rw [a4, decide_eq_true q], ⟨ρ', c', ch', a7, by rw [a5]; exact a8⟩, fun _ => ⟨by omega, ?_⟩⟩
    have sw := sw_of (k := k.toNat) (by omega) hob.1 hic.1
    rw [a5]
    rw [show ((k.toNat : Nat) : Int) = k from by omega] at sw
    exact sw
  · have h := R_X9_reachN (G := G) (R := R) (k := k) (t := t) hB hF hk q
    refine Runs.mono h fun r X Q hq => ?_
    obtain ⟨h1, h2, h3⟩ := hq
    subst h2 h3
    exact ⟨hF, hB, chg_r, by rw [h1, decide_eq_false q]; rfl, hs, fun z => absurd z q⟩
def obsQ (b : Bk) (Ks : Nat → Kd) (nk : Nat) (V : VV) (P : Int → Prop) : Option AV → VV → RR → Prop := fun r X Q => FinR Q ∧ Bd X ∧ chg [(31, 98)] [(30, 7, 8), (30, 12, 13)] V X ∧ svX b Ks nk X Q ∧ ∃ v, r = some (vi v) ∧ r32 v ∧ P v
theorem sg_full {b : Bk} {k : Int} {c g : Nat} {X : VV} (h : sgC b k c X) (hg : g < b.n) (ho : owO b k c g ≠ -1) : X 40 (owO b k c g).toNat = fulO b k c (owO b k c g).toNat := by
  rcases ow_is (k := k) (c := c) hg with z | ⟨y, y1, y2, y3⟩
  · exact absurd z ho
  · rw [y2, Int.toNat_natCast]
    have e : shO b k c (cntB (isSp b k c) y) = y := nth_cnt y1 y3
    have lt : cntB (isSp b k c) y < nSp b k c := by
      have h1 := cntB_mono (p := isSp b k c) (m := y + 1) (n := b.n) (by omega)
      rw [cntB_t y3] at h1
      show _ < cntB (isSp b k c) b.n
      omega
    have := h.2.2.2.2.2.2 (cntB (isSp b k c) y) lt
    rw [e] at this
    exact this
theorem so_ow {b : Bk} {k : Int} {c g : Nat} (hg : g < b.n) : (soO b k c g = -1 ↔ owO b k c g = -1) ∧ (owO b k c g ≠ -1 → 0 ≤ soO b k c g ∧ (soO b k c g).toNat < nSp b k c ∧ (shO b k c (soO b k c g).toNat : Int) = owO b k c g ∧ 0 ≤ owO b k c g ∧ owO b k c g < (b.n : Int)) := by
  unfold soO
  rcases ow_is (k := k) (c := c) hg with z | ⟨y, y1, y2, y3⟩
  · rw [if_pos z]
    exact ⟨⟨fun _ => z, fun _ => rfl⟩, fun q => absurd z q⟩
  · rw [if_neg (by omega), y2, Int.toNat_natCast, Int.toNat_natCast]
    have e : shO b k c (cntB (isSp b k c) y) = y := nth_cnt y1 y3
    have lt : cntB (isSp b k c) y < nSp b k c := by
      have h1 := cntB_mono (p := isSp b k c) (m := y + 1) (n := b.n) (by omega)
      rw [cntB_t y3] at h1
      show _ < cntB (isSp b k c) b.n
      omega
    exact ⟨by omega, fun _ => ⟨by omega, lt, by rw [e], by omega, by omega⟩⟩
theorem svX_x {b : Bk} {Ks : Nat → Kd} {nk : Nat} {X X' : VV} {Q' : RR} {ρ : Nat → Nat} {c ch : Nat} (h7 : X' 30 7 = X 30 7) (h8 : X' 30 8 = X 30 8) (hr : rwI Q' ρ) (h : svC b (X 30 7) Ks nk c ρ ch (X 30 8) X' Q') : svX b Ks nk X' Q' := ⟨ρ, c, ch, hr, by rw [h7, h8]; exact h⟩
/-- what strengths and places leave -/
theorem svC_t {b : Bk} {k sg : Int} {Ks : Nat → Kd} {nk c : Nat} {ρ : Nat → Nat} {ch : Nat} {V V' : VV} {R R' : RR} (h : svC b k Ks nk c ρ ch sg V R) (hrw : rwI R ρ) (f : chg [(53, 54), (47, 47), (32, 32)] [(52, 2, 2), (52, 5, 5), (52, 7, 7), (52, 9, 15), (55, 0, 18)] V V') (e47 : V' 47 = V 47 ∨ mapC (spS b k c) V') (e32 : ∀ j, j < nk → V' 32 j = V 32 j ∨ V' 32 j = (weak b k (spS b k c) Ks j 7 : Int)) (fr : frK R R') : svC b k Ks nk c ρ ch sg V' R' := by
  obtain ⟨h1, h2, h3, h4, h5⟩ := h
  refine ⟨fun z => ?_, fun z => ?_, fun z => ?_, fun z => ?_, fun z => ?_⟩
  · have s := h1 z
    rcases e47 with e | e
    · exact S1_x s fun a g1 g2 => by
        by_cases q : a = 47
        · rw [q]; exact e
        · exact chg_k f (by
            have key : ∀ a, a < 52 → 34 ≤ a → a ≠ 47 → offC [(53, 54), (47, 47), (32, 32)] [(52, 2, 2), (52, 5, 5), (52, 7, 7), (52, 9, 15), (55, 0, 18)] a = true := by decide
            exact key a (by omega) g1 q)
    · exact S1_mk s.1 s.2.1 (offA f 34 41 rfl) e (fun i hi => by rw [chg_k (c := 49) f rfl]; exact s.2.2.2 i hi)
  · have s := h2 z
    refine ⟨s.1, (f 56 1 rfl rfl).trans s.2.1, rwL_x s.2.2.1 hrw s.1 (fun a j g1 g2 _ => by rw [offA f 60 84 rfl a g1 g2]), fun j hj => ⟨by rw [chg_k (c := 31) f rfl]; exact (s.2.2.2 j hj).1, ?_⟩⟩
    rcases e32 j hj with e | e
    · rw [e]; exact (s.2.2.2 j hj).2
    · exact Or.inr e
  · exact S3_x (h3 z) (h2 (by omega)).1 hrw (fun j g1 g2 => by rw [chg_k (c := 56) f rfl]) (fun a g1 g2 => by rw [offA f 60 84 rfl a g1 g2]) (chg_k (c := 58) f rfl) (f 30 13 rfl rfl) (f 30 12 rfl rfl) (chg_k (c := 33) f rfl)
  · exact S4_x (h4 z) (f 85 0 rfl rfl) (fun j _ _ => by rw [chg_k (c := 85) f rfl]) (offA f 87 96 rfl) (fun i => fr 86 i (fun y => absurd y.1 (by decide)))
  · exact S5_x (h5 z) (f 85 11 rfl rfl) (f 85 15 rfl rfl) (chg_k (c := 97) f rfl) (chg_k (c := 98) f rfl)
/-- and what fences leave -/
theorem svC_f {b : Bk} {k sg : Int} {Ks : Nat → Kd} {nk c : Nat} {ρ : Nat → Nat} {ch : Nat} {V V' : VV} {R : RR} (h : svC b k Ks nk c ρ ch sg V R) (hrw : rwI R ρ) (f : chg [(33, 33)] [(30, 12, 13)] V V') (hf : fnC (spS b k c) (lz0 (aL b k Ks nk c) ch (aN b k Ks nk c)) V') : svC b k Ks nk c ρ ch sg V' R := by
  obtain ⟨h1, h2, h3, h4, h5⟩ := h
  refine ⟨fun z => S1_x (h1 z) (offA f 34 51 rfl), fun z => S2_x (h2 z) hrw (f 56 1 rfl rfl) (fun a j g1 g2 _ => by rw [offA f 60 84 rfl a g1 g2]) (chg_k (c := 31) f rfl) (chg_k (c := 32) f rfl), fun z => ?_, fun z => S4_x (h4 z) (f 85 0 rfl rfl) (fun j _ _ => by rw [chg_k (c := 85) f rfl]) (offA f 87 96 rfl) (fun i => rfl), fun z => S5_x (h5 z) (f 85 11 rfl rfl) (f 85 15 rfl rfl) (chg_k (c := 97) f rfl) (chg_k (c := 98) f rfl)⟩
  obtain ⟨s1, s2, s3, s4, s5⟩ := h3 z
  refine ⟨s1, ?_, fun j hj => ?_, ho58_x s4 (chg_k (c := 58) f rfl), fun _ => hf⟩
  · unfold stC at s2 ⊢
    rw [chg_k (c := 56) f rfl]
    exact s2
  · have hN := (h2 (by omega)).1
    rw [offA f 60 84 rfl _ (hrw.1 j (by omega)).2.1 (hrw.1 j (by omega)).2.2]
    exact s3 j hj
/-- loose spots, by the holes -/
theorem h58_lz {b : Bk} {k : Int} {c : Nat} {l : Nat → Nat → Int} {ch N : Nat} {V : VV} (ho : bO b) (h : ho58 b k c l ch N V) : ∀ s, s < (spS b k c).m → (V 58 ((spS b k c).h s).toNat = -1 ↔ lz0 l ch N s = true) := fun s hs => by
  obtain ⟨x, x1, x2⟩ := h
  have so := spS_O (b := b) (k := k) (c := c) ho
  have w := so.2 s hs
  rw [x2 _ (by omega)]
  unfold lz0
  rw [Bool.not_eq_true', anyB_f]
  have eq : ∀ i, i < N → ((x i).testBit ((spS b k c).h s).toNat = true ↔ (bL l i).testBit s = true) := fun i hi => by
    rw [(x1 i hi).2]
    constructor
    · rintro ⟨t, t1, t2, t3⟩
      rw [← h_inj so t1 hs (by rw [t3]; omega)]
      exact t2
    · intro z
      exact ⟨s, hs, z, by omega⟩
  rcases lst_r (p := fun i => ch.testBit i && (x i).testBit ((spS b k c).h s).toNat) N with ⟨z, z2⟩ | ⟨i, i1, i2, i3⟩
  · refine ⟨fun _ i hi => ?_, fun _ => z⟩
    have h1 := z2 i hi
    have h2 := eq i hi
    cases u : ch.testBit i <;> cases v : (bL l i).testBit s <;> simp_all
  · refine ⟨fun q => by omega, fun q => ?_⟩
    have h1 := q i i1
    have h2 := eq i i1
    rw [Bool.and_eq_true] at i2
    rw [i2.1, Bool.true_and] at h1
    rw [h2.mp i2.2] at h1
    cases h1
theorem sw_plcW {b : Bk} {w k : Int} (h : sameW b w k) {Ks : Nat → Kd} {nk : Nat} : plcW b Ks nk w = plcW b Ks nk k := by
  funext x i j c
  unfold plcW aN aL
  rw [sw_spS h, sw_allK h, sw_plO h]
theorem plc_r {b : Bk} {k : Int} {S : Sp} {K : Kd} {p q r i j : Nat} (so : sO S) : r32 (if plO b k S K p q r i j < 0 then plO b k S K p q r i j else S.h (plO b k S K p q r i j).toNat) := by
  have fr := plO_r (b := b) (k := k) (S := S) (K := K) (p := p) (q := q) (r := r) (i := i) (j := j) so.1
  by_cases z : plO b k S K p q r i j < 0
  · rw [if_pos z]
    exact ⟨by omega, by omega⟩
  · rw [if_neg z]
    have w := so.2 (plO b k S K p q r i j).toNat (by omega)
    exact ⟨by omega, by omega⟩
theorem plc_e {b : Bk} {Ks : Nat → Kd} {nk : Nat} {k h i j : Int} {c kd p q r : Nat} (hg : 0 ≤ h ∧ h < (aN b k Ks nk c : Int)) (hi : 0 ≤ i ∧ i < (aL b k Ks nk c) h.toNat 4) (hj : 0 ≤ j ∧ j < (Ks kd).l 0) (g5 : (aL b k Ks nk c) h.toNat 0 = (kd : Int)) (g6 : (aL b k Ks nk c) h.toNat 1 = (p : Int)) (g7 : (aL b k Ks nk c) h.toNat 2 = (q : Int)) (g8 : (aL b k Ks nk c) h.toNat 3 = (r : Int)) : plcW b Ks nk k h i j c = if plO b k (spS b k c) (Ks kd) p q r i.toNat j.toNat < 0 then plO b k (spS b k c) (Ks kd) p q r i.toNat j.toNat else (spS b k c).h (plO b k (spS b k c) (Ks kd) p q r i.toNat j.toNat).toNat := by
  unfold plcW
  rw [g5, g6, g7, g8, Int.toNat_natCast, Int.toNat_natCast, Int.toNat_natCast, Int.toNat_natCast, if_pos ⟨hg.1, hg.2, hi, hj⟩]
theorem st_neg {mt lt : Nat → Nat → Bool} {n : Nat} {lf e0 l0 : Nat → Int} {a s : Int} {ea la : Nat → Int} (h : stS mt lt n lf e0 l0 a s ea la) : stS mt lt n lf e0 l0 a s ea (fun i => - (- la i)) := by
  have e : (fun i => - (- la i)) = la := funext fun i => Int.neg_neg _
  rw [e]; exact h
theorem mxW_b {g : Nat → Nat} {M a : Nat} (h : ∀ s, g s ≤ M) : ∀ s m, m ≤ M → mxW g a s m ≤ M := by
  intro s
  induction s using Nat.strongRecOn with
  | ind s ih =>
    intro m hm
    by_cases q : s = 0
    · rw [q, mxW_0]; exact hm
    · rw [mxW_s q]
      exact ih _ (Nat.lt_of_le_of_lt Nat.and_le_left (by omega)) _ (by have := h s; split <;> omega)
/-- bounds of starts -/
theorem sta_r {b : Bk} {Ks : Nat → Kd} {nk : Nat} {k : Int} {c ch : Nat} {a cn rv hs : Int} {ro ea la : Nat → Int} (hob : okB b Ks nk) (h : aPh b Ks nk k c ch a cn rv ro) (g : aSt b Ks nk k c ch a hs ea la) (z : hs ≠ 0) (h13 : aC b k Ks nk c ch ≤ 13) : a = 1 ∧ ∀ i, i < aC b k Ks nk c ch → (0 ≤ ea i ∧ ea i ≤ 8500) ∧ (-6500 ≤ la i ∧ la i ≤ 2000) := by
  have ha := a_hs h g z
  refine ⟨ha, fun i hi => ?_⟩
  obtain ⟨_, m, f0, t, hp⟩ := (a_ph h).resolve_left (by omega)
  have g2 := (g.2 ha m f0 t hp).2 i hi
  have pb := isPh_b mtM_cm hp
  have eb := ea_b (rl := rlB (aMt b k Ks nk c ch) (aLt b k Ks nk c ch)) (f := f0) (lf := lfM Ks (aL b k Ks nk c) ch (aN b k Ks nk c)) (e0 := e0M b k c (aL b k Ks nk c) ch (aN b k Ks nk c) b.dn) h13 (fun i hi => by have := pb.2 i hi; omega) (a_lf hob.2.2.2) (fun i _ => e0_b hob.1 b.dn i) i hi
  have nb := na_b (rl := rlB (aMt b k Ks nk c ch) (aLt b k Ks nk c ch)) (f := f0) (lf := lfM Ks (aL b k Ks nk c) ch (aN b k Ks nk c)) (l0 := l0M b k c (aL b k Ks nk c) ch (aN b k Ks nk c) b.dn) h13 (a_lf hob.2.2.2) (fun i _ => l0_b hob.1 b.dn i) i hi
  rw [g2.1, g2.2]
  omega
