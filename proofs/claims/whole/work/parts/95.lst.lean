/-! the list of houses -/
/-- a row of the reference's list: kind, p, q, r, posts, filled, missed, lost, unseen, value, by which; then 32 places -/
def rowO (V : VV) (i f : Nat) : Int := if f < 11 then V (135 + f) i else V 146 (32 * i + (f - 11))
def hsL (N : Nat) (l : Nat → Nat → Int) (V : VV) : Prop := V 99 57 = (N : Int) ∧ ∀ i, i < N → ∀ f, f < 43 → rowO V i f = l i f
def newE (V : VV) (kd p q r n : Nat) (f : Nat) : Int := if f = 0 then (kd : Int) else if f = 1 then (p : Int) else if f = 2 then (q : Int) else if f = 3 then (r : Int) else if f = 4 then (n : Int) else if f = 10 then V 99 77 else if f < 10 then V 99 (67 + f) else V 148 (f - 11)
def smF (l : Nat → Nat → Int) (e : Nat → Int) : Nat → Int
  | 0 => -1
  | h + 1 => if l h 0 = e 0 ∧ l h 10 = e 10 then (h : Int) else smF l e h
def delF (l : Nat → Nat → Int) (s : Nat) : Nat → Nat → Int := fun i => if i < s then l i else l (i + 1)
def insF (l : Nat → Nat → Int) (a : Nat) (e : Nat → Int) : Nat → Nat → Int := fun i => if i < a then l i else if i = a then e else l (i - 1)
def atF (l : Nat → Nat → Int) (v : Int) : Nat → Nat
  | 0 => 0
  | n + 1 => if l n 9 < v then atF l v n else n + 1
def k1N (N : Nat) (l : Nat → Nat → Int) (e : Nat → Int) : Nat := if smF l e N = -1 then N else N - 1
def k1L (N : Nat) (l : Nat → Nat → Int) (e : Nat → Int) : Nat → Nat → Int := if smF l e N = -1 then l else delF l (smF l e N).toNat
abbrev kpS (N : Nat) (l : Nat → Nat → Int) (e : Nat → Int) : Prop := smF l e N ≠ -1 ∧ e 9 ≤ l (smF l e N).toNat 9
def kpN (N : Nat) (l : Nat → Nat → Int) (e : Nat → Int) : Nat := if kpS N l e then N else if atF (k1L N l e) (e 9) (k1N N l e) = 24 then k1N N l e else if k1N N l e = 24 then 24 else k1N N l e + 1
def kpL (N : Nat) (l : Nat → Nat → Int) (e : Nat → Int) : Nat → Nat → Int := if kpS N l e then l else if atF (k1L N l e) (e 9) (k1N N l e) = 24 then k1L N l e else insF (k1L N l e) (atF (k1L N l e) (e 9) (k1N N l e)) e
theorem sm_r {l : Nat → Nat → Int} {e : Nat → Int} : ∀ N : Nat, smF l e N = -1 ∨ (0 ≤ smF l e N ∧ smF l e N < N)
  | 0 => Or.inl rfl
  | h + 1 => by
    unfold smF
    split
    · omega
    · have := sm_r (l := l) (e := e) h; omega
theorem at_le {l : Nat → Nat → Int} {v : Int} : ∀ N : Nat, atF l v N ≤ N
  | 0 => Nat.le_refl _
  | n + 1 => by
    unfold atF
    split
    · have := at_le (l := l) (v := v) n; omega
    · exact Nat.le_refl _
/-- arrays 135 .. 145 with one row set -/
def cpA (V X : VV) (a c : Nat) : Prop := ∀ f, f < 11 → X (135 + f) = uV V (135 + f) c (V (135 + f) a) (135 + f)
def cpP (V X : VV) (a c t : Nat) : Prop := ∀ j, X 146 j = if 32 * c ≤ j ∧ j < 32 * c + t then V 146 (32 * a + (j - 32 * c)) else V 146 j
theorem cpy_s {V X X' : VV} {a c t j : Nat} {v : Int} (h : cpP V X a c t) (h2 : cpA V X a c) (e : X' = uV X 146 j v) (hj : j = 32 * c + t) (hv : v = V 146 (32 * a + t)) : cpP V X' a c (t + 1) ∧ cpA V X' a c := by
  subst e hj
  refine ⟨fun j => ?_, fun f hf => ?_⟩
  · rw [uV_at]
    by_cases q : j = 32 * c + t
    · rw [if_pos q, if_pos (by omega), hv, show 32 * a + (j - 32 * c) = 32 * a + t by omega]
    · rw [if_neg q, h j]
      by_cases w : 32 * c ≤ j ∧ j < 32 * c + t
      · rw [if_pos w, if_pos (by omega)]
      · rw [if_neg w, if_neg (by omega)]
  · rw [uV_cell (by omega)]; exact h2 f hf
theorem cpy_e {V X : VV} {a c : Nat} (h : cpP V X a c 32) (h2 : cpA V X a c) : ∀ i f, f < 43 → rowO X i f = if i = c then rowO V a f else rowO V i f := by
  intro i f hf
  unfold rowO
  by_cases q : f < 11
  · rw [if_pos q, if_pos q, if_pos q, h2 f q, uV_at]
  · rw [if_neg q, if_neg q, if_neg q, h]
    by_cases w : i = c
    · subst w
      rw [if_pos (by omega), if_pos rfl, show 32 * a + (32 * i + (f - 11) - 32 * i) = 32 * a + (f - 11) by omega]
    · rw [if_neg (by omega), if_neg w]
theorem f11 {P : Nat → Prop} (h0 : P 0) (h1 : P 1) (h2 : P 2) (h3 : P 3) (h4 : P 4) (h5 : P 5) (h6 : P 6) (h7 : P 7) (h8 : P 8) (h9 : P 9) (h10 : P 10) : ∀ f, f < 11 → P f := by
  intro f hf
  rcases (show f = 0 ∨ f = 1 ∨ f = 2 ∨ f = 3 ∨ f = 4 ∨ f = 5 ∨ f = 6 ∨ f = 7 ∨ f = 8 ∨ f = 9 ∨ f = 10 by omega) with rfl | rfl | rfl | rfl | rfl | rfl | rfl | rfl | rfl | rfl | rfl <;> assumption
section
variable {N : Nat} {l : Nat → Nat → Int} {e : Nat → Int} {V X Y Z U : VV}
theorem row_9 (hL : hsL N l V) {i : Nat} (hi : i < N) : V 135 i = l i 0 ∧ V 144 i = l i 9 ∧ V 145 i = l i 10 := ⟨hL.2 i hi 0 (by omega), hL.2 i hi 9 (by omega), hL.2 i hi 10 (by omega)⟩
theorem kp_1 (h : kpS N l e) : kpN N l e = N ∧ kpL N l e = l := by
  unfold kpN kpL
  rw [if_pos h, if_pos h]; exact ⟨rfl, rfl⟩
theorem kp_2 (h : ¬ kpS N l e) (h2 : atF (k1L N l e) (e 9) (k1N N l e) = 24) : kpN N l e = k1N N l e ∧ kpL N l e = k1L N l e := by
  unfold kpN kpL
  rw [if_neg h, if_neg h, if_pos h2, if_pos h2]; exact ⟨rfl, rfl⟩
theorem kp_3 {a N2 : Nat} (h : ¬ kpS N l e) (h2 : a = atF (k1L N l e) (e 9) (k1N N l e)) (h3 : a ≠ 24) (hN : N2 = if k1N N l e = 24 then 23 else k1N N l e) : kpN N l e = N2 + 1 ∧ kpL N l e = insF (k1L N l e) a e := by
  unfold kpN kpL
  rw [if_neg h, if_neg h, ← h2, if_neg h3, if_neg h3]
  refine ⟨?_, rfl⟩
  rw [hN]
  split <;> omega
/-- rows moved down from s on, as far as h -/
def dnI (N : Nat) (l : Nat → Nat → Int) (s h : Nat) (X : VV) : Prop := ∀ i, i < N → ∀ f, f < 43 → rowO X i f = if s ≤ i ∧ i < h then l (i + 1) f else l i f
theorem dn_s {s h : Nat} (hX : dnI N l s h X) (hs : s ≤ h) (hh : h + 1 < N) (hp : ∀ i f, f < 43 → rowO Y i f = if i = h then rowO X (h + 1) f else rowO X i f) : dnI N l s (h + 1) Y := by
  intro i hi f hf
  rw [hp i f hf]
  by_cases q : i = h
  · rw [if_pos q, hX (h + 1) hh f hf, if_neg (by omega), if_pos (by omega), q]
  · rw [if_neg q, hX i hi f hf]
    by_cases w : s ≤ i ∧ i < h
    · rw [if_pos w, if_pos (by omega)]
    · rw [if_neg w, if_neg (by omega)]
theorem dn_e {s h : Nat} (hX : dnI N l s h X) (hh : h + 1 = N) (hs : s ≤ h) (hm : smF l e N = (s : Int)) (eY : Y = uV X 99 57 ((N : Int) - 1)) : hsL (k1N N l e) (k1L N l e) Y := by
  unfold k1N k1L
  rw [hm, if_neg (by omega), if_neg (by omega), Int.toNat_natCast]
  refine ⟨by rw [eY]; exact uV_self.trans (by omega), fun i hi f hf => ?_⟩
  have e1 : rowO Y i f = rowO X i f := by
    unfold rowO
    rw [eY, uV_cell (by omega), uV_cell (by omega)]
  rw [e1, hX i (by omega) f hf]
  unfold delF
  by_cases w : i < s
  · rw [if_neg (by omega), if_pos w]
  · rw [if_pos (by omega), if_neg w]
/-- rows moved up down to h -/
def upI (N2 : Nat) (L : Nat → Nat → Int) (h : Nat) (X : VV) : Prop := ∀ i f, f < 43 → (i < h → rowO X i f = L i f) ∧ (h < i → i ≤ N2 → rowO X i f = L (i - 1) f)
theorem up_s {N2 h : Nat} {L : Nat → Nat → Int} (hX : upI N2 L (h + 1) X) (hp : ∀ i f, f < 43 → rowO Y i f = if i = h + 1 then rowO X h f else rowO X i f) : upI N2 L h Y := by
  intro i f hf
  rw [hp i f hf]
  by_cases q : i = h + 1
  · rw [if_pos q]
    refine ⟨fun z => by omega, fun z w => ?_⟩
    rw [(hX h f hf).1 (by omega), q]
    rfl
  · rw [if_neg q]
    exact ⟨fun z => (hX i f hf).1 (by omega), fun z w => (hX i f hf).2 (by omega) w⟩
def nwA (U X : VV) (a : Nat) (e : Nat → Int) : Prop := ∀ f, f < 11 → X (135 + f) = uV U (135 + f) a (e f) (135 + f)
def nwP (U X : VV) (a : Nat) (e : Nat → Int) (t : Nat) : Prop := ∀ j, X 146 j = if 32 * a ≤ j ∧ j < 32 * a + t then e (11 + (j - 32 * a)) else U 146 j
theorem nw_s {X' : VV} {a t j : Nat} {v : Int} (h : nwP U X a e t) (h2 : nwA U X a e) (eX : X' = uV X 146 j v) (hj : j = 32 * a + t) (hv : v = e (11 + t)) : nwP U X' a e (t + 1) ∧ nwA U X' a e := by
  subst eX hj
  refine ⟨fun j => ?_, fun f hf => ?_⟩
  · rw [uV_at]
    by_cases q : j = 32 * a + t
    · rw [if_pos q, if_pos (by omega), hv, show 11 + (j - 32 * a) = 11 + t by omega]
    · rw [if_neg q, h j]
      by_cases w : 32 * a ≤ j ∧ j < 32 * a + t
      · rw [if_pos w, if_pos (by omega)]
      · rw [if_neg w, if_neg (by omega)]
  · rw [uV_cell (by omega)]; exact h2 f hf
theorem nw_e {a N2 : Nat} {L : Nat → Nat → Int} (h : nwP U X a e 32) (h2 : nwA U X a e) (hU : upI N2 L a U) (ha : a ≤ N2) (hN : X 99 57 = (N2 : Int) + 1) : hsL (N2 + 1) (insF L a e) X := by
  refine ⟨by rw [hN]; rfl, fun i hi f hf => ?_⟩
  have e1 : rowO X i f = if i = a then e f else rowO U i f := by
    unfold rowO
    by_cases q : f < 11
    · rw [if_pos q, if_pos q, h2 f q, uV_at]
    · rw [if_neg q, if_neg q, h]
      by_cases w : i = a
      · subst w
        rw [if_pos (by omega), if_pos rfl, show 11 + (32 * i + (f - 11) - 32 * i) = f by omega]
      · rw [if_neg (by omega), if_neg w]
  rw [e1]
  unfold insF
  by_cases q : i = a
  · rw [if_pos q, if_neg (by omega), if_pos q]
  · rw [if_neg q]
    by_cases w : i < a
    · rw [if_pos w]; exact (hU i f hf).1 w
    · rw [if_neg w, if_neg q]; exact (hU i f hf).2 (by omega) (by omega)
theorem at_t {v : Int} {n : Nat} (h : l n 9 < v) : atF l v (n + 1) = atF l v n := by
  conv => lhs; unfold atF
  rw [if_pos h]
theorem at_f {v : Int} {n : Nat} (h : ¬ l n 9 < v) : atF l v (n + 1) = n + 1 := by
  unfold atF
  rw [if_neg h]
end
theorem newE_p {V : VV} {kd p q r n t : Nat} : newE V kd p q r n (11 + t) = V 148 t := by
  unfold newE
  rw [if_neg (by omega), if_neg (by omega), if_neg (by omega), if_neg (by omega), if_neg (by omega), if_neg (by omega), if_neg (by omega), show 11 + t - 11 = t by omega]
theorem k1N_le {N : Nat} {l : Nat → Nat → Int} {e : Nat → Int} : k1N N l e ≤ N := by
  unfold k1N
  by_cases q : smF l e N = -1
  · rw [if_pos q]; exact Nat.le_refl _
  · rw [if_neg q]; omega
