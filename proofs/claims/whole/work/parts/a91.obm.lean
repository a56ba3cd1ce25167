/-! the reference's answers: what is kept -/
def ldM (b : Bk) (Ks : Nat → Kd) (nk : Nat) (X : VV) : Prop := X 99 1 = -1 ∨ ((0 ≤ X 99 1 ∧ X 99 1 ≤ 400) ∧ ∃ c ch, laidM b Ks nk (X 99 1) c ch X)
theorem ld_h {b : Bk} {Ks : Nat → Kd} {nk : Nat} {X : VV} {k : Int} (h : ldM b Ks nk X) (hk : 0 ≤ k) : X 99 1 = k → ∃ c ch, laidM b Ks nk k c ch X := fun e => by
  rcases h with z | ⟨_, z⟩
  · omega
  · rw [e] at z; exact z
theorem ld_n {b : Bk} {Ks : Nat → Kd} {nk : Nat} {X : VV} {k : Int} (hk : 0 ≤ k ∧ k ≤ 400) (h1 : X 99 1 = k) (h : ∃ c ch, laidM b Ks nk k c ch X) : ldM b Ks nk X := Or.inr ⟨by rw [h1]; exact hk, by rw [h1]; exact h⟩
def obsM (b : Bk) (Ks : Nat → Kd) (nk : Nat) (V : VV) (R : RR) (P : Int → Prop) : Option AV → VV → RR → Prop := fun r X Q => R = Q ∧ Bd X ∧ chg [(128, 161)] [(99, 1, 1), (99, 45, 49), (99, 57, 57), (99, 72, 87), (99, 97, 97)] V X ∧ ldM b Ks nk X ∧ ∃ v, r = some (vi v) ∧ r32 v ∧ P v
def isHs (b : Bk) (Ks : Nat → Kd) (nk : Nat) (k h : Int) : Prop := ∃ c, isB (KK b k) 6724 c ∧ 0 ≤ h ∧ h < (aN b k Ks nk c : Int)
theorem isHs_c {b : Bk} {Ks : Nat → Kd} {nk : Nat} {k h : Int} {c : Nat} (hc : isB (KK b k) 6724 c) : isHs b Ks nk k h ↔ 0 ≤ h ∧ h < (aN b k Ks nk c : Int) := by
  constructor
  · rintro ⟨d, d1, d2⟩
    rw [isB_u hc d1]; exact d2
  · intro z; exact ⟨c, hc, z⟩
theorem imB_c {Ks : Nat → Kd} {nk : Nat} {V X : VV} (h : imB Ks nk V) (f : chg [(128, 161)] [(99, 1, 1), (99, 45, 49), (99, 57, 57), (99, 72, 87), (99, 97, 97)] V X) : imB Ks nk X := ⟨(f 99 36 rfl rfl).trans h.1, fun i hi => kM_c (h.2 i hi) f rfl⟩
theorem ls_pl {b : Bk} {k : Int} {S : Sp} {Ks : Nat → Kd} {N : Nat} {l : Nat → Nat → Int} {X : VV} {h : Nat} (hl : lsM b k S Ks N l X) (hh : h < N) (h48 : l h 4 ≤ 8) : ∃ kd p q r : Nat, kd < 5 ∧ (l h 0 = (kd : Int) ∧ l h 1 = (p : Int) ∧ l h 2 = (q : Int) ∧ l h 3 = (r : Int)) ∧ (p < S.m ∧ q < S.m ∧ r < S.m) ∧ ∀ a c, a < (l h 4).toNat → c < ((Ks kd).l 0).toNat → c < 4 → X 146 (32 * h + (4 * a + c)) = plO b k S (Ks kd) p q r a c := by
  obtain ⟨_, l', h1, h2, h3⟩ := hl
  obtain ⟨kd, p, q, r, g1, g2, g3, g4, g5, ⟨s, g6⟩, g7, g8⟩ := h3 h hh
  have e : ∀ f, f < 11 → l h f = recO b k S Ks kd p q r f := fun f hf => (h2 h hh f hf).symm.trans (g7 f hf)
  have e4 : l h 4 = (frO b k S (Ks kd) p q r : Int) := e 4 (by omega)
  refine ⟨kd, p, q, r, g1, ⟨e 0 (by omega), e 1 (by omega), e 2 (by omega), e 3 (by omega)⟩, ⟨g2, g3, g4⟩, fun a c ha hc hc4 => ?_⟩
  have ha2 : a < frO b k S (Ks kd) p q r := by omega
  rw [← g8 a c ha2 hc]
  have := h1.2 h hh (11 + (4 * a + c)) (by omega)
  unfold rowO at this
  rw [if_neg (by omega), show 11 + (4 * a + c) - 11 = 4 * a + c by omega] at this
  exact this
theorem mb_s {ch n : Nat} : cntB (fun x => ch.testBit x) (n + 1) = cntB (fun x => ch.testBit x) n + (if ch.testBit n = true then 1 else 0) := rfl
/-- the first house that a hole is of is the last -/
theorem mem_g {b : Bk} {k : Int} {c : Nat} {l : Nat → Nat → Int} {v : Nat → Int} {ch N g i : Nat} (hO : cOk v (bL l) N ch) (hi : i < N) (hc : ch.testBit i = true) (ho : ofB b k c l g i = true) : memH b k c l ch N g = (i : Int) := by
  unfold memH
  rcases lst_r (p := fun i => ch.testBit i && ofB b k c l g i) N with ⟨z, z2⟩ | ⟨x, x1, x2, x3⟩
  · have := z2 i hi
    rw [hc, ho] at this; cases this
  · rw [x3]
    rw [Bool.and_eq_true] at x2
    have key : ∀ x y, x < y → ch.testBit x = true → ch.testBit y = true → ofB b k c l g x = true → ofB b k c l g y = true → False := fun x y hxy cx cy ox oy => by
      have h1 := hO.2 x y hxy cx cy
      have h2 := congrArg (fun z => z.testBit (soO b k c g).toNat) h1
      simp only [Nat.testBit_and, Nat.zero_testBit] at h2
      rw [(of_i.mp ox).2, (of_i.mp oy).2] at h2
      cases h2
    rcases Nat.lt_trichotomy x i with q | q | q
    · exact absurd (key x i q x2.1 hc x2.2 ho) id
    · rw [q]
    · exact absurd (key i x q hc x2.1 ho x2.2) id
theorem mem_n {b : Bk} {k : Int} {c : Nat} {l : Nat → Nat → Int} {ch N g : Nat} (h : ∀ i, i < N → (ch.testBit i && ofB b k c l g i) = false) : memH b k c l ch N g = -1 := by
  unfold memH
  rcases lst_r (p := fun i => ch.testBit i && ofB b k c l g i) N with ⟨z, z2⟩ | ⟨x, x1, x2, x3⟩
  · exact z
  · rw [h x x1] at x2; cases x2
theorem mbW_n {ch N : Nat} {h : Int} (hN : N ≤ 24) (hn : ¬ (0 ≤ h ∧ h < (N : Int))) : mbW ch N h = -1 := by
  unfold mbW
  by_cases q : 0 ≤ h ∧ h ≤ 23
  · rw [if_pos q]
    unfold mbI
    rw [if_neg (fun z => hn ⟨q.1, by have := z.1; omega⟩)]
  · rw [if_neg q]
section
variable {b : Bk} {Ks : Nat → Kd} {nk : Nat} {k : Int}
theorem o2_at {F : Nat → Nat → Int} {v : Int} {c ch : Nat} (h : o2 b Ks nk k F v) (s : sel b Ks nk k c ch) : v = F c ch := by
  obtain ⟨c', ch', s', e⟩ := h
  obtain ⟨rfl, rfl⟩ := sel_u s s'
  exact e
theorem pa_1 {g h w v5 v6 : Int} (h5 : gd (K4 k) (-1) (o2 b Ks nk k (fun c ch => mbW ch (aN b k Ks nk c) g)) v5) (h6 : gd (K4 k) (-1) (o2 b Ks nk k (fun c ch => mbW ch (aN b k Ks nk c) h)) v6) (hv : v5 = -1 ∨ v6 = -1 ∨ v5 = v6) : gd ((0 ≤ w ∧ w ≤ 1) ∧ K4 k) (-1) (o2 b Ks nk k (paW b Ks nk k g h w)) (-1) := by
  refine ⟨fun z => ?_, fun _ => rfl⟩
  obtain ⟨c, ch, s1, e1⟩ := h5.1 z.2
  have e2 := o2_at (h6.1 z.2) s1
  refine ⟨c, ch, s1, ?_⟩
  unfold paW
  rw [if_pos]
  have e1' : v5 = mbW ch (aN b k Ks nk c) g := e1
  have e2' : v6 = mbW ch (aN b k Ks nk c) h := e2
  rw [← e1', ← e2']
  exact hv
theorem ph_1 {h v : Int} {X : VV} (h5 : gd (K4 k) (-1) (o2 b Ks nk k (fun c ch => mbW ch (aN b k Ks nk c) h)) v) (hl : K4 k → ∃ c ch, laidM b Ks nk k c ch X) (hv : v = -1 ∨ X 99 86 = 0) : gd (K4 k) (-1) (o6 b Ks nk k h) (-1) := by
  refine ⟨fun z => ?_, fun _ => rfl⟩
  obtain ⟨c, ch, l1, l2, l3, l4, l5, l6, l7, l8, l9, l10, l11⟩ := hl z
  have e : v = mbW ch (aN b k Ks nk c) h := o2_at (h5.1 z) ⟨l1, l4⟩
  exact ⟨c, ch, _, _, _, _, ⟨l1, l4⟩, l9, (if_pos (by rw [← e]; exact hv)).symm⟩
theorem st_1 {h w v : Int} {X : VV} (h5 : gd (K4 k) (-1) (o2 b Ks nk k (fun c ch => mbW ch (aN b k Ks nk c) h)) v) (hl : K4 k → ∃ c ch, laidM b Ks nk k c ch X) (hv : v = -1 ∨ X 99 87 = 0) : gd ((0 ≤ w ∧ w ≤ 1) ∧ K4 k) (-1) (o7 b Ks nk k h w) (-1) := by
  refine ⟨fun z => ?_, fun _ => rfl⟩
  obtain ⟨c, ch, l1, l2, l3, l4, l5, l6, l7, l8, l9, l10, l11⟩ := hl z.2
  have e : v = mbW ch (aN b k Ks nk c) h := o2_at (h5.1 z.2) ⟨l1, l4⟩
  exact ⟨c, ch, _, _, _, _, _, _, _, ⟨l1, l4⟩, l9, l10, (if_pos (by rw [← e]; exact hv)).symm⟩
end
