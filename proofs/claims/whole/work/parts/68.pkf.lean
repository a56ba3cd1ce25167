/-! a kind leaves the numbers of those before it -/
def frm (m : Nat) (a b : Nat → Int) : Prop := ∀ j, j < m → a j = b j
theorem frm_r {m : Nat} {a : Nat → Int} : frm m a a := fun _ _ => rfl
theorem frm_t {m : Nat} {a b c : Nat → Int} (h : frm m a b) (h2 : frm m b c) : frm m a c := fun j hj => (h j hj).trans (h2 j hj)
theorem frm_up {m i : Nat} {a : Nat → Int} {x : Int} (h : m ≤ i) : frm m (up1 a i x) a := fun j hj => by
  unfold up1
  rw [if_neg (by omega)]
theorem frm_set {rd : Nat} {a : Nat → Int} {d : List Int} : frm (10 * rd) (setD a rd d) a := fun j hj => by
  unfold setD
  rw [if_neg (by omega)]
theorem clS_fr {t : Nat → Int} {n f rd : Nat} {lo hi : Nat → Int} : frm (10 * rd) (clS t n f rd lo hi).2.2.1 lo ∧ frm (10 * rd) (clS t n f rd lo hi).2.2.2 hi := by
  unfold clS
  simp only []
  split
  · exact ⟨frm_r, frm_r⟩
  · split
    · exact ⟨frm_r, frm_r⟩
    · split
      · exact ⟨frm_up (by omega), frm_up (by omega)⟩
      · split
        · exact ⟨frm_r, frm_r⟩
        · split
          · exact ⟨frm_r, frm_r⟩
          · exact ⟨frm_up (by omega), frm_up (by omega)⟩
theorem cls_fr {t : Nat → Int} {n rd : Nat} : ∀ {c f : Nat} {lo hi : Nat → Int}, frm (10 * rd) (cls t n rd c f lo hi).2.2.1 lo ∧ frm (10 * rd) (cls t n rd c f lo hi).2.2.2 hi
  | 0, f, lo, hi => ⟨frm_r, frm_r⟩
  | c + 1, f, lo, hi => by
    have h1 := clS_fr (t := t) (n := n) (f := f) (rd := rd) (lo := lo) (hi := hi)
    by_cases q : (clS t n f rd lo hi).2.1 = -1 ∧ (clS t n f rd lo hi).1 < n ∧ t (clS t n f rd lo hi).1 = 44
    · rw [cls_s q]
      have h2 := cls_fr (t := t) (n := n) (rd := rd) (c := c) (f := nxt t n (clS t n f rd lo hi).1) (lo := (clS t n f rd lo hi).2.2.1) (hi := (clS t n f rd lo hi).2.2.2)
      exact ⟨frm_t h2.1 h1.1, frm_t h2.2 h1.2⟩
    · rw [cls_e q]
      exact h1
theorem kF_34 {t : Nat → Int} {n rd : Nat} {r : Nat × Int × (Nat → Int) × (Nat → Int)} : (kF t n rd r).2.2.2.1 = r.2.2.1 ∧ (kF t n rd r).2.2.2.2 = r.2.2.2 := by
  unfold kF
  split
  · exact ⟨rfl, rfl⟩
  · split <;> exact ⟨rfl, rfl⟩
theorem kdS_fr {t : Nat → Int} {n f rd : Nat} {lo hi : Nat → Int} : frm (10 * rd) (kdS t n f rd lo hi).2.2.2.1 lo ∧ frm (10 * rd) (kdS t n f rd lo hi).2.2.2.2 hi := by
  by_cases hr : rd = 5 ∨ ¬ wdb 0 t f (tokE t n f) = true
  · unfold kdS
    rw [if_pos hr]
    exact ⟨frm_r, frm_r⟩
  · have hr5 : ¬ rd = 5 := fun z => hr (Or.inl z)
    have hw : wdb 0 t f (tokE t n f) = true := Classical.byContradiction fun z => hr (Or.inr z)
    by_cases h1 : nxt t n f < n ∧ t (nxt t n f) = 123
    · rw [kd_k hr5 hw h1, kF_34.1, kF_34.2]
      split
      · exact ⟨frm_set, frm_set⟩
      · exact ⟨frm_t cls_fr.1 frm_set, frm_t cls_fr.2 frm_set⟩
    · rw [kd_b hr5 hw h1]
      exact ⟨frm_set, frm_set⟩
theorem dR_fr {rd m : Nat} {lo hi lo' hi' r : Nat → Int} (h : dR rd lo hi r) (hm : 10 * rd + 10 ≤ m) (h1 : frm m lo' lo) (h2 : frm m hi' hi) : dR rd lo' hi' r := by
  intro s hs
  rw [h1 _ (by omega), h2 _ (by omega)]
  exact h s hs
/-- the rows of the first m kinds -/
def dKs (m : Nat) (lo hi : Nat → Int) (D : Nat → Nat → Int) : Prop := ∀ r, r < m → dR r lo hi (D (25 + r))
