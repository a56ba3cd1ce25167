/-! corners of a row, tests of two rows -/
def corR (S : Sp) (Ks : Nat → Kd) (W : VV) (a : Nat) (e : Nat → Int) : Prop := cnr8 W a (S.x (e 1).toNat) (S.y (e 1).toNat) (S.x (e 2).toNat - S.x (e 1).toNat) (S.y (e 2).toNat - S.y (e 1).toNat) (S.x (e 3).toNat - S.x (e 1).toNat) (S.y (e 3).toNat - S.y (e 1).toNat) (e 4 - 1) ((Ks (e 0).toNat).l 0 - 1)
theorem corR_of {S : Sp} {Ks : Nat → Kd} {V X : VV} {a hh kd p q r : Nat} {e : Nat → Int} (h : corI V X a (V 132 p) (vxM V 132 hh p q) (wxM V 132 kd p r) (V 133 p) (vxM V 133 hh p q) (wxM V 133 kd p r) 4) (hs : sM S V) (hp : p < S.m) (hq : q < S.m) (hr : r < S.m) (e0 : e 0 = (kd : Int)) (e1 : e 1 = (p : Int)) (e2 : e 2 = (q : Int)) (e3 : e 3 = (r : Int)) (e4 : V 139 hh = e 4) (hk : V 122 (10 * kd) = (Ks kd).l 0) : corR S Ks X a e := by
  intro t ht
  have := h.1 t ht
  unfold vxM wxM at this
  rw [(hs.2 p hp).2.1, (hs.2 q hq).2.1, (hs.2 r hr).2.1, (hs.2 p hp).2.2.1, (hs.2 q hq).2.2.1, (hs.2 r hr).2.2.1, e4, hk] at this
  rw [e0, e1, e2, e3, Int.toNat_natCast, Int.toNat_natCast, Int.toNat_natCast, Int.toNat_natCast]
  exact this
theorem corR_k {S : Sp} {Ks : Nat → Kd} {W W' : VV} {e : Nat → Int} (h : corR S Ks W 0 e) (k : ∀ j, j < 8 → W' 158 j = W 158 j) : corR S Ks W' 0 e := by
  intro t ht
  rw [k _ (by omega), k _ (by omega)]
  exact h t ht
theorem corR_x {S : Sp} {Ks : Nat → Kd} {W W' : VV} {a : Nat} {e : Nat → Int} (h : corR S Ks W a e) (k : W' 158 = W 158) : corR S Ks W' a e := by
  intro t ht
  rw [k]
  exact h t ht
theorem gap_o {S : Sp} {Ks : Nat → Kd} {W : VV} {a b : Nat} {e d : Nat → Int} (h : corR S Ks W a e) (g : corR S Ks W b d) (h4 : 2 ≤ e 4) (h0 : 2 ≤ (Ks (e 0).toNat).l 0) : anyB (prB W a b) 4 = true ↔ gapR S Ks e d := prt_o h g (by omega) (by omega)
theorem mt_eq {S : Sp} {Ks : Nat → Kd} {l : Nat → Nat → Int} {ch N i j : Nat} (h : i = j) : mtM S Ks l ch N i j = false := by
  unfold mtM; rw [decide_eq_false (fun z => z h), Bool.false_and]
theorem mt_f1 {S : Sp} {Ks : Nat → Kd} {l : Nat → Nat → Int} {ch N i j : Nat} (h : gapR S Ks (l (mbr ch N i)) (l (mbr ch N j)) ∨ gapR S Ks (l (mbr ch N j)) (l (mbr ch N i))) : mtM S Ks l ch N i j = false := by
  unfold mtM metR
  rw [Bool.and_eq_false_iff]
  exact Or.inr (decide_eq_false fun z => h.elim z.1 z.2)
theorem mt_t {S : Sp} {Ks : Nat → Kd} {l : Nat → Nat → Int} {ch N i j : Nat} (hij : i ≠ j) (h1 : ¬ gapR S Ks (l (mbr ch N i)) (l (mbr ch N j))) (h2 : ¬ gapR S Ks (l (mbr ch N j)) (l (mbr ch N i))) : mtM S Ks l ch N i j = true := by
  unfold mtM metR
  rw [decide_eq_true hij, decide_eq_true ⟨h1, h2⟩]; rfl
theorem lt_eq {b : Bk} {k : Int} {c : Nat} {l : Nat → Nat → Int} {ch N i j : Nat} (h : i = j) : ltM b k c l ch N i j = false := by
  unfold ltM; rw [decide_eq_false (fun z => z h), Bool.false_and]
theorem lt_ne {b : Bk} {k : Int} {c : Nat} {l : Nat → Nat → Int} {ch N i j : Nat} (h : i ≠ j) : ltM b k c l ch N i j = ltH b k c l (mbr ch N i) (mbr ch N j) := by
  unfold ltM; rw [decide_eq_true h, Bool.true_and]
theorem min_nil {α : Type} {l : List α} (h : ((min 1000 l.length : Nat) : Int) = 0) : l = [] := by
  cases l with
  | nil => rfl
  | cons a t => rw [List.length_cons] at h; omega
theorem min_cons {α : Type} {l : List α} (h : ¬ ((min 1000 l.length : Nat) : Int) = 0) : ∃ a t, l = a :: t := by
  cases l with
  | nil => rw [List.length_nil] at h; exact absurd rfl h
  | cons a t => exact ⟨a, t, rfl⟩
