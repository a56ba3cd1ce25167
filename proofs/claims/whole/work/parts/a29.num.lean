/-! a text's numbers keep their limits -/
def okN (lo hi : Nat → Int) (r : Nat) : Prop := ∀ s, s < 10 → lsB s ≤ lo (10 * r + s) ∧ lo (10 * r + s) ≤ hi (10 * r + s) ∧ hi (10 * r + s) ≤ msB s
section
variable {t : Nat → Int} {n : Nat}
theorem okN_u {lo hi : Nat → Int} {rd s : Nat} {v w : Int} (h : okN lo hi rd) (h1 : lsB s ≤ v) (h2 : v ≤ w) (h3 : w ≤ msB s) : okN (up1 lo (10 * rd + s) v) (up1 hi (10 * rd + s) w) rd := by
  intro s' hs'
  unfold up1
  by_cases q : s' = s
  · subst q; rw [if_pos rfl, if_pos rfl]; exact ⟨h1, h2, h3⟩
  · rw [if_neg (by omega), if_neg (by omega)]; exact h s' hs'
theorem clS_ok {f rd : Nat} {lo hi : Nat → Int} (h : okN lo hi rd) : okN (clS t n f rd lo hi).2.2.1 (clS t n f rd lo hi).2.2.2 rd := by
  unfold clS
  simp only []
  by_cases q0 : sortS t f (tokE t n f) = 10
  · rw [if_pos q0]; exact h
  · rw [if_neg q0]
    by_cases q1 : numOK t n (nxt t n f) (lsB (sortS t f (tokE t n f))) (msB (sortS t f (tokE t n f)))
    · rw [if_neg (nnI q1)]
      by_cases q2 : spB (sortS t f (tokE t n f)) = false
      · rw [if_pos q2]; exact okN_u h q1.2.2.1 (Int.le_refl _) q1.2.2.2
      · rw [if_neg q2]
        by_cases q3 : ¬ wdb 13 t (nxt t n (nxt t n f)) (tokE t n (nxt t n (nxt t n f))) = true
        · rw [if_pos q3]; exact h
        · rw [if_neg q3]
          by_cases q4 : numOK t n (nxt t n (nxt t n (nxt t n f))) (exN t (nxt t n f) (tokE t n (nxt t n f))) (msB (sortS t f (tokE t n f)))
          · rw [if_neg (nnI q4)]; exact okN_u h q1.2.2.1 q4.2.2.1 q4.2.2.2
          · rw [if_pos q4]; exact h
    · rw [if_pos q1]; exact h
theorem cls_ok {rd : Nat} : ∀ {c f : Nat} {lo hi : Nat → Int}, okN lo hi rd → okN (cls t n rd c f lo hi).2.2.1 (cls t n rd c f lo hi).2.2.2 rd
  | 0, f, lo, hi, h => h
  | c + 1, f, lo, hi, h => by
    by_cases q : (clS t n f rd lo hi).2.1 = -1 ∧ (clS t n f rd lo hi).1 < n ∧ t (clS t n f rd lo hi).1 = 44
    · rw [cls_s q]; exact cls_ok (clS_ok h)
    · rw [cls_e q]; exact clS_ok h
theorem dfl_ok : ∀ s, s < 10 → lsB s ≤ dfL.getD s 0 ∧ dfL.getD s 0 ≤ dfH.getD s 0 ∧ dfH.getD s 0 ≤ msB s := by decide +kernel
theorem setD_ok {lo hi : Nat → Int} {rd : Nat} : okN (setD lo rd dfL) (setD hi rd dfH) rd := by
  intro s hs
  unfold setD
  rw [if_pos (by omega), if_pos (by omega), show 10 * rd + s - 10 * rd = s by omega]
  exact dfl_ok s hs
theorem kF_ok {rd : Nat} {r : Nat × Int × (Nat → Int) × (Nat → Int)} (h : okN r.2.2.1 r.2.2.2 rd) : okN (kF t n rd r).2.2.2.1 (kF t n rd r).2.2.2.2 rd := by
  unfold kF
  by_cases h2 : ¬ r.2.1 = -1
  · rw [if_pos h2]; exact h
  · rw [if_neg h2]
    by_cases h3 : r.1 < n ∧ t r.1 = 125
    · rw [if_pos h3]; exact h
    · rw [if_neg h3]; exact h
theorem kdS_ok {lo hi : Nat → Int} {f rd : Nat} (h : (kdS t n f rd lo hi).2.1 = -1) : okN (kdS t n f rd lo hi).2.2.2.1 (kdS t n f rd lo hi).2.2.2.2 rd := by
  by_cases hr : rd = 5 ∨ ¬ wdb 0 t f (tokE t n f) = true
  · unfold kdS at h
    rw [if_pos hr] at h
    have h4 : ((f : Nat) : Int) = -1 := h
    omega
  · have hr5 : ¬ rd = 5 := fun z => hr (Or.inl z)
    have hw : wdb 0 t f (tokE t n f) = true := Classical.byContradiction fun z => hr (Or.inr z)
    by_cases h1 : nxt t n f < n ∧ t (nxt t n f) = 123
    · rw [kd_k hr5 hw h1]
      apply kF_ok
      by_cases h2 : nxt t n (nxt t n f) < n ∧ t (nxt t n (nxt t n f)) = 125
      · rw [if_pos h2]; exact setD_ok
      · rw [if_neg h2]; exact cls_ok setD_ok
    · rw [kd_b hr5 hw h1] at h
      have h4 : ((nxt t n f : Nat) : Int) = -1 := h
      omega
theorem okN_fr {lo hi lo' hi' : Nat → Int} {r m : Nat} (h : okN lo hi r) (hr : r < m) (h1 : frm (10 * m) lo' lo) (h2 : frm (10 * m) hi' hi) : okN lo' hi' r := by
  intro s hs
  rw [h1 _ (by omega), h2 _ (by omega)]
  exact h s hs
theorem kds_ok : ∀ {c f rd : Nat} {lo hi : Nat → Int}, (∀ r, r < rd → okN lo hi r) → (kdsF t n c f rd lo hi).2.1 = -1 → ∀ r, r < (kdsF t n c f rd lo hi).2.2.1 → okN (kdsF t n c f rd lo hi).2.2.2.1 (kdsF t n c f rd lo hi).2.2.2.2 r
  | 0, f, rd, lo, hi, h, e => by
    have e : ((f : Nat) : Int) = -1 := e
    omega
  | c + 1, f, rd, lo, hi, h, e => by
    have hfr := kdS_fr (t := t) (n := n) (f := f) (rd := rd) (lo := lo) (hi := hi)
    by_cases q : (kdS t n f rd lo hi).2.1 = -1 ∧ (kdS t n f rd lo hi).1 < n ∧ t (kdS t n f rd lo hi).1 = 59
    · rw [kds_c q] at e ⊢
      refine kds_ok (fun r hr => ?_) e
      rw [kdS_rd q.1] at hr
      by_cases w : r = rd
      · rw [w]; exact kdS_ok q.1
      · exact okN_fr (h r (by omega)) (show r < rd by omega) hfr.1 hfr.2
    · rw [kds_e q] at e ⊢
      intro r hr
      rw [kdS_rd e] at hr
      by_cases w : r = rd
      · rw [w]; exact kdS_ok e
      · exact okN_fr (h r (by omega)) (show r < rd by omega) hfr.1 hfr.2
theorem kin_ok {lo hi : Nat → Int} (h : kinF t n lo hi = -1) : ∀ r, r < (kinR t n lo hi).2.2.1 → okN (kinR t n lo hi).2.2.2.1 (kinR t n lo hi).2.2.2.2 r := by
  by_cases q : n ≤ skipB t n 0
  · rw [(kF_0 q).2]; intro r hr; omega
  · have e : kinR t n lo hi = kdsF t n 401 (skipB t n 0) 0 lo hi := by unfold kinR; rw [if_neg q]
    have h2 : (kinR t n lo hi).2.1 = -1 := by
      unfold kinF at h
      by_cases w : (kinR t n lo hi).2.1 = -1 ∧ (kinR t n lo hi).1 < n
      · exact w.1
      · rw [if_neg w] at h; exact h
    rw [e] at h2 ⊢
    exact kds_ok (fun r hr => by omega) h2
end
/-- so they are a kind's -/
theorem okN_kO {lo hi : Nat → Int} {r : Nat} {K : Kd} (h : okN lo hi r) (hl : ∀ j, j < 10 → K.l j = lo (10 * r + j)) (hh : ∀ j, j < 10 → K.h j = hi (10 * r + j)) : kO K := by
  have g : ∀ s, s < 10 → lsB s ≤ K.l s ∧ K.l s ≤ K.h s ∧ K.h s ≤ msB s := fun s hs => by rw [hl s hs, hh s hs]; exact h s hs
  have c1 : lsB 0 = 2 ∧ lsB 1 = 2 ∧ lsB 2 = 5 ∧ lsB 3 = 5 ∧ lsB 4 = 0 ∧ lsB 5 = 0 ∧ lsB 6 = 0 ∧ lsB 7 = 0 ∧ lsB 8 = 1 ∧ lsB 9 = 1 := by decide +kernel
  have c2 : msB 0 = 4 ∧ msB 1 = 8 ∧ msB 2 = 100 ∧ msB 3 = 200 ∧ msB 4 = 9 ∧ msB 5 = 300 ∧ msB 6 = 300 ∧ msB 7 = 4 ∧ msB 8 = 500 ∧ msB 9 = 100 := by decide +kernel
  have g0 := g 0 (by omega)
  have g1 := g 1 (by omega)
  have g2 := g 2 (by omega)
  have g3 := g 3 (by omega)
  have g4 := g 4 (by omega)
  have g5 := g 5 (by omega)
  have g6 := g 6 (by omega)
  have g7 := g 7 (by omega)
  have g8 := g 8 (by omega)
  have g9 := g 9 (by omega)
  unfold kO
  omega
