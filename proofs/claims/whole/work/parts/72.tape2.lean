/-! the two tapes: bytes with and without a sign read alike -/
def tE (x y : Int) : Prop := x = y ∨ (x < 0 ∧ 128 ≤ y)
theorem tE_bl {x y : Int} (h : tE x y) : blB x = blB y := by
  unfold blB
  rcases h with rfl | h
  · rfl
  · rw [decide_eq_false (by omega), decide_eq_false (by omega)]
theorem tE_lb {x y : Int} (h : tE x y) : isLb x = isLb y := by
  unfold isLb
  rcases h with rfl | h
  · rfl
  · rw [decide_eq_false (by omega), decide_eq_false (by omega)]
theorem tE_db {x y : Int} (h : tE x y) : isDb x = isDb y := by
  unfold isDb
  rcases h with rfl | h
  · rfl
  · rw [decide_eq_false (by omega), decide_eq_false (by omega)]
theorem tE_eq {x y c : Int} (h : tE x y) (h0 : 0 ≤ c) (h1 : c < 128) : x = c ↔ y = c := by
  unfold tE at h; omega
theorem nnI {P : Prop} (h : P) : ¬ ¬ P := fun z => z h
section
variable {t u : Nat → Int} {n : Nat}
theorem run_tE {b : Int → Bool} (hb : ∀ x y, tE x y → b x = b y) (H : ∀ i, i < n → tE (t i) (u i)) : ∀ (f p : Nat), n - p ≤ f → runB b t n p = runB b u n p
  | 0, p, h => by
    rw [runB_eq, runB_eq b u, if_neg (by omega), if_neg (by omega)]
  | f + 1, p, h => by
    rw [runB_eq, runB_eq b u]
    by_cases q : p < n
    · rw [hb _ _ (H p q), run_tE hb H f (p + 1) (by omega)]
    · rw [if_neg (fun z => q z.1), if_neg (fun z => q z.1)]
theorem skip_tE (H : ∀ i, i < n → tE (t i) (u i)) (p : Nat) : skipB t n p = skipB u n p := run_tE (fun _ _ => tE_bl) H _ p (Nat.le_refl _)
theorem tok_tE (H : ∀ i, i < n → tE (t i) (u i)) (p : Nat) : tokE t n p = tokE u n p := by
  unfold tokE
  by_cases q : n ≤ p
  · rw [if_pos q, if_pos q]
  · rw [if_neg q, if_neg q, tE_lb (H p (by omega)), tE_db (H p (by omega)), run_tE (fun _ _ => tE_lb) H _ p (Nat.le_refl _), run_tE (fun _ _ => tE_db) H _ p (Nat.le_refl _)]
theorem nxt_tE (H : ∀ i, i < n → tE (t i) (u i)) (p : Nat) : nxt t n p = nxt u n p := by
  unfold nxt
  rw [tok_tE H, skip_tE H]
theorem wBl : ∀ j, j < 16 → ∀ i, i < wLen j → 0 ≤ wByt j i ∧ wByt j i < 128 := by decide +kernel
theorem wdb_tE (H : ∀ i, i < n → tE (t i) (u i)) {j p e : Nat} (hj : j < 16) (he : e ≤ n) : wdb j t p e = wdb j u p e := by
  apply Bool.eq_iff_iff.mpr
  rw [wdb_iff, wdb_iff]
  constructor
  · rintro ⟨h1, h2⟩
    exact ⟨h1, fun i hi => (tE_eq (H _ (by omega)) (wBl j hj i hi).1 (wBl j hj i hi).2).mp (h2 i hi)⟩
  · rintro ⟨h1, h2⟩
    exact ⟨h1, fun i hi => (tE_eq (H _ (by omega)) (wBl j hj i hi).1 (wBl j hj i hi).2).mpr (h2 i hi)⟩
theorem sortF_tE (H : ∀ i, i < n → tE (t i) (u i)) {p e : Nat} (he : e ≤ n) : ∀ f s : Nat, s + f ≤ 10 → sortF t p e f s = sortF u p e f s
  | 0, s, _ => rfl
  | f + 1, s, h => by rw [sortF_s, sortF_s, wdb_tE H (by omega) he, sortF_tE H he f (s + 1) (by omega)]
theorem exF_tE {p : Nat} : ∀ k : Nat, (∀ i, i < k → t (p + i) = u (p + i)) → exF t p k = exF u p k
  | 0, _ => rfl
  | k + 1, h => by
    show 10 * exF t p k + (t (p + k) - 48) = 10 * exF u p k + (u (p + k) - 48)
    rw [exF_tE k (fun i hi => h i (by omega)), h k (by omega)]
theorem exN_tE (H : ∀ i, i < n → tE (t i) (u i)) {p : Nat} (hp : p < n) (hd : isDb (t p) = true) : exN t p (tokE t n p) = exN u p (tokE t n p) := by
  unfold exN
  apply exF_tE
  intro i hi
  have h1 := dig_tok (t := t) hp hd (j := p + i) (by omega) (by omega)
  have h2 := (tokE_le (t := t) (Nat.le_of_lt hp)).2.1
  rcases H (p + i) (by omega) with h | h
  · exact h
  · omega
theorem num_tE (H : ∀ i, i < n → tE (t i) (u i)) {p : Nat} {l m : Int} : numOK t n p l m ↔ numOK u n p l m := by
  by_cases hp : p < n
  · by_cases hd : isDb (t p) = true
    · unfold numOK
      rw [exN_tE H hp hd, tok_tE H, tE_db (H p hp)]
    · have hd' : ¬ isDb (u p) = true := by rw [← tE_db (H p hp)]; exact hd
      exact ⟨fun z => absurd z.2.1 hd, fun z => absurd z.2.1 hd'⟩
  · exact ⟨fun z => absurd z.1 hp, fun z => absurd z.1 hp⟩
theorem clS_tE (H : ∀ i, i < n → tE (t i) (u i)) {f rd : Nat} {lo hi : Nat → Int} (hf : f ≤ n) : clS t n f rd lo hi = clS u n f rd lo hi := by
  have h1 := nxt_le (t := u) hf
  have h2 := nxt_le (t := u) h1.2.1
  have h3 := nxt_le (t := u) h2.2.1
  have e0 : sortS t f (tokE t n f) = sortS u f (tokE u n f) := by
    rw [tok_tE H]
    exact sortF_tE H ((tokE_le (t := u) hf).2.1) 10 0 (by omega)
  unfold clS
  simp only []
  rw [e0, nxt_tE H f, nxt_tE H (nxt u n f), nxt_tE H (nxt u n (nxt u n f))]
  by_cases q0 : sortS u f (tokE u n f) = 10
  · rw [if_pos q0, if_pos q0]
  · rw [if_neg q0, if_neg q0]
    by_cases q1 : numOK u n (nxt u n f) (lsB (sortS u f (tokE u n f))) (msB (sortS u f (tokE u n f)))
    · have q1' := (num_tE H).mpr q1
      rw [if_neg (nnI q1'), if_neg (nnI q1), exN_tE H q1'.1 q1'.2.1, tok_tE H (nxt u n f), tok_tE H (nxt u n (nxt u n f)), wdb_tE H (by omega) ((tokE_le (t := u) h2.2.1).2.1)]
      by_cases q2 : spB (sortS u f (tokE u n f)) = false
      · rw [if_pos q2, if_pos q2]
      · rw [if_neg q2, if_neg q2]
        by_cases q3 : ¬ wdb 13 u (nxt u n (nxt u n f)) (tokE u n (nxt u n (nxt u n f))) = true
        · rw [if_pos q3, if_pos q3]
        · rw [if_neg q3, if_neg q3]
          by_cases q4 : numOK u n (nxt u n (nxt u n (nxt u n f))) (exN u (nxt u n f) (tokE u n (nxt u n f))) (msB (sortS u f (tokE u n f)))
          · have q4' := (num_tE H).mpr q4
            rw [if_neg (nnI q4'), if_neg (nnI q4), exN_tE H q4'.1 q4'.2.1, tok_tE H, nxt_tE H]
          · have q4' := fun z => q4 ((num_tE H).mp z)
            rw [if_pos q4', if_pos q4]
    · have q1' := fun z => q1 ((num_tE H).mp z)
      rw [if_pos q1', if_pos q1]
theorem cls_tE (H : ∀ i, i < n → tE (t i) (u i)) {rd : Nat} : ∀ (c f : Nat) (lo hi : Nat → Int), f ≤ n → cls t n rd c f lo hi = cls u n rd c f lo hi
  | 0, f, lo, hi, _ => rfl
  | c + 1, f, lo, hi, hf => by
    have h1 := clS_le (t := u) (rd := rd) (lo := lo) (hi := hi) hf
    have h2 := nxt_le (t := u) h1.2.1
    have e := clS_tE H (rd := rd) (lo := lo) (hi := hi) hf
    by_cases q : (clS u n f rd lo hi).2.1 = -1 ∧ (clS u n f rd lo hi).1 < n ∧ u (clS u n f rd lo hi).1 = 44
    · have q' : (clS t n f rd lo hi).2.1 = -1 ∧ (clS t n f rd lo hi).1 < n ∧ t (clS t n f rd lo hi).1 = 44 := by
        rw [e]; exact ⟨q.1, q.2.1, (tE_eq (H _ q.2.1) (by omega) (by omega)).mpr q.2.2⟩
      rw [cls_s q, cls_s q', e, nxt_tE H, cls_tE H c _ _ _ h2.2.1]
    · have q' : ¬ ((clS t n f rd lo hi).2.1 = -1 ∧ (clS t n f rd lo hi).1 < n ∧ t (clS t n f rd lo hi).1 = 44) := by
        rw [e]; exact fun z => q ⟨z.1, z.2.1, (tE_eq (H _ z.2.1) (by omega) (by omega)).mp z.2.2⟩
      rw [cls_e q, cls_e q', e]
theorem sg_tE (H : ∀ i, i < n → tE (t i) (u i)) {p : Nat} {c : Int} (h0 : 0 ≤ c) (h1 : c < 128) : (p < n ∧ t p = c) ↔ (p < n ∧ u p = c) :=
  ⟨fun z => ⟨z.1, (tE_eq (H _ z.1) h0 h1).mp z.2⟩, fun z => ⟨z.1, (tE_eq (H _ z.1) h0 h1).mpr z.2⟩⟩
theorem kF_tE (H : ∀ i, i < n → tE (t i) (u i)) {rd : Nat} {r : Nat × Int × (Nat → Int) × (Nat → Int)} : kF t n rd r = kF u n rd r := by
  unfold kF
  by_cases h2 : ¬ r.2.1 = -1
  · rw [if_pos h2, if_pos h2]
  · rw [if_neg h2, if_neg h2]
    by_cases h3 : r.1 < n ∧ u r.1 = 125
    · rw [if_pos h3, if_pos ((sg_tE H (by omega) (by omega)).mpr h3), nxt_tE H]
    · rw [if_neg h3, if_neg (fun z => h3 ((sg_tE H (by omega) (by omega)).mp z))]
theorem kdS_tE (H : ∀ i, i < n → tE (t i) (u i)) {f rd : Nat} {lo hi : Nat → Int} (hf : f ≤ n) : kdS t n f rd lo hi = kdS u n f rd lo hi := by
  have h1 := nxt_le (t := u) hf
  have h2 := nxt_le (t := u) h1.2.1
  have ew : wdb 0 t f (tokE t n f) = wdb 0 u f (tokE u n f) := by rw [tok_tE H]; exact wdb_tE H (by omega) ((tokE_le (t := u) hf).2.1)
  by_cases hr : rd = 5 ∨ ¬ wdb 0 u f (tokE u n f) = true
  · unfold kdS
    rw [if_pos hr, if_pos (by rw [ew]; exact hr)]
  · have hr5 : ¬ rd = 5 := fun z => hr (Or.inl z)
    have hw : wdb 0 u f (tokE u n f) = true := Classical.byContradiction fun z => hr (Or.inr z)
    have hw' : wdb 0 t f (tokE t n f) = true := by rw [ew]; exact hw
    by_cases h1 : nxt u n f < n ∧ u (nxt u n f) = 123
    · have h1' : nxt t n f < n ∧ t (nxt t n f) = 123 := by rw [nxt_tE H]; exact (sg_tE H (by omega) (by omega)).mpr h1
      rw [kd_k hr5 hw h1, kd_k hr5 hw' h1', kF_tE H, nxt_tE H f, nxt_tE H (nxt u n f)]
      by_cases h2 : nxt u n (nxt u n f) < n ∧ u (nxt u n (nxt u n f)) = 125
      · rw [if_pos h2, if_pos ((sg_tE H (by omega) (by omega)).mpr h2)]
      · rw [if_neg h2, if_neg (fun z => h2 ((sg_tE H (by omega) (by omega)).mp z)), cls_tE H _ _ _ _ (by omega)]
    · have h1' : ¬ (nxt t n f < n ∧ t (nxt t n f) = 123) := by rw [nxt_tE H]; exact fun z => h1 ((sg_tE H (by omega) (by omega)).mp z)
      rw [kd_b hr5 hw h1, kd_b hr5 hw' h1', nxt_tE H]
theorem kds_tE (H : ∀ i, i < n → tE (t i) (u i)) : ∀ (c f rd : Nat) (lo hi : Nat → Int), f ≤ n → rd ≤ 5 → kdsF t n c f rd lo hi = kdsF u n c f rd lo hi
  | 0, f, rd, lo, hi, _, _ => rfl
  | c + 1, f, rd, lo, hi, hf, hr => by
    have h1 := kdS_le (t := u) (rd := rd) (lo := lo) (hi := hi) hf hr
    have h2 := nxt_le (t := u) h1.2.1
    have e := kdS_tE H (rd := rd) (lo := lo) (hi := hi) hf
    by_cases q : (kdS u n f rd lo hi).2.1 = -1 ∧ (kdS u n f rd lo hi).1 < n ∧ u (kdS u n f rd lo hi).1 = 59
    · have q' : (kdS t n f rd lo hi).2.1 = -1 ∧ (kdS t n f rd lo hi).1 < n ∧ t (kdS t n f rd lo hi).1 = 59 := by
        rw [e]; exact ⟨q.1, (sg_tE H (by omega) (by omega)).mpr q.2⟩
      rw [kds_c q, kds_c q', e, nxt_tE H, kds_tE H c _ _ _ _ h2.2.1 h1.2.2.2]
    · have q' : ¬ ((kdS t n f rd lo hi).2.1 = -1 ∧ (kdS t n f rd lo hi).1 < n ∧ t (kdS t n f rd lo hi).1 = 59) := by
        rw [e]; exact fun z => q ⟨z.1, (sg_tE H (by omega) (by omega)).mp z.2⟩
      rw [kds_e q, kds_e q', e]
theorem kin_tE (H : ∀ i, i < n → tE (t i) (u i)) {lo hi : Nat → Int} : kinR t n lo hi = kinR u n lo hi ∧ kinF t n lo hi = kinF u n lo hi := by
  have e : kinR t n lo hi = kinR u n lo hi := by
    unfold kinR
    rw [skip_tE H, kds_tE H _ _ _ _ _ (skipB_le (t := u) (Nat.zero_le n)).2 (by omega)]
  exact ⟨e, by unfold kinF; rw [e]⟩
end
