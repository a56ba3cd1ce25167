/-! the law's invariant holds at the start -/
theorem lkI_in {lo hi : Int} (h0 : lo ≤ 0 ∧ 0 ≤ hi) : ∀ {l : List (Nat × Int)}, l.all (fun q => decide (lo ≤ q.2 ∧ q.2 ≤ hi)) = true → ∀ i, lo ≤ lkI l i ∧ lkI l i ≤ hi
  | [], _, i => h0
  | q :: t, h, i => by
    simp only [List.all_cons, Bool.and_eq_true, decide_eq_true_eq] at h
    unfold lkI
    split
    · exact h.1
    · exact lkI_in h0 h.2 i
def okA (a : Nat) : Bool := match arB a with
  | some q => decide (q.1 ≤ 0 ∧ 0 ≤ q.2) && (ivL a).all (fun x => decide (q.1 ≤ x.2 ∧ x.2 ≤ q.2))
  | none => true
theorem okA_all : ∀ a, a < 162 → okA a = true := by decide +kernel
def okCc (a ci k : Nat) : Bool := match clB ci k with
  | some q => decide (q.1 ≤ lkI (ivL a) k ∧ lkI (ivL a) k ≤ q.2)
  | none => true
theorem okCc_all : ∀ a, a < 162 → (lay a).1 = 0 → ∀ k, k < 100 → okCc a (lay a).2 k = true := by decide +kernel
theorem clB_len : ∀ ci, ci < 12 → (clBL.getD ci []).length ≤ 100 := by decide +kernel
theorem clB_out {ci k : Nat} (h : 100 ≤ k) : clB ci k = none := by
  unfold clB
  have : (clBL.getD ci []).length ≤ 100 := by
    by_cases q : ci < 12
    · exact clB_len ci q
    · rw [List.getD_eq_getElem?_getD, List.getElem?_eq_none (by have : clBL.length = 12 := rfl; omega)]
      decide
  rw [List.getD_eq_getElem?_getD, List.getElem?_eq_none (by omega)]
  rfl
theorem arB_out {a : Nat} (h : 162 ≤ a) : arB a = none := by
  unfold arB
  have hl : arBL.length ≤ 162 := by decide +kernel
  rw [List.getD_eq_getElem?_getD, List.getElem?_eq_none (Nat.le_trans hl h)]
  rfl
theorem okR_all : ∀ q ∈ refL, q.1 < 162 ∧ lkR (irL q.1) q.2.1 = some q.2.2 := by decide +kernel
theorem iv_0 : ∀ k, k < 120 → 100 ≤ k → ivL k = [] := by decide +kernel
theorem ir_57 : ∀ i, i < 25 → lkR (irL 57) i = some (60 + i) := by decide +kernel
theorem iv_df : ∀ j, j < 10 → lkI (ivL 126) j = dfL.getD j 0 ∧ lkI (ivL 127) j = dfH.getD j 0 := by decide +kernel
section
variable {V : VV} {R : RR}
theorem st_Bd (h : agI 0 162 V R) : Bd V := by
  refine ⟨fun a lo hi hb i => ?_, fun a ci k lo hi hl hb => ?_⟩
  · by_cases q : a < 162
    · have z := okA_all a q
      unfold okA at z
      rw [hb] at z
      simp only [Bool.and_eq_true, decide_eq_true_eq] at z
      rw [(h a (Nat.zero_le _) q).1]
      exact lkI_in z.1 z.2 i
    · rw [arB_out (by omega)] at hb
      cases hb
  · have q := lay_lc hl (by decide)
    by_cases g : k < 100
    · have z := okCc_all a q (by rw [hl]) k g
      rw [hl] at z
      have z : okCc a ci k = true := z
      unfold okCc at z
      rw [hb] at z
      simp only [decide_eq_true_eq] at z
      rw [(h a (Nat.zero_le _) q).1]
      exact z
    · rw [clB_out (by omega)] at hb
      cases hb
theorem st_FinR (h : agI 0 162 V R) : FinR R := by
  intro a k b hs
  unfold srf at hs
  obtain ⟨q, h1, h2⟩ := Option.map_eq_some_iff.mp hs
  have h3 := List.find?_some h1
  simp only [Bool.and_eq_true, beq_iff_eq] at h3
  obtain ⟨z1, z2⟩ := okR_all q (List.mem_of_find?_eq_some h1)
  rw [h3.1] at z1 z2
  rw [h3.2, h2] at z2
  rw [(h a (Nat.zero_le _) z1).2]
  exact z2
theorem st_INVX (h : agI 0 162 V R) : INVX V R := by
  have hB := st_Bd h
  have v : ∀ k, k < 162 → V k = iv k := fun k hk => (h k (Nat.zero_le _) hk).1
  have z : ∀ k, 100 ≤ k → k < 120 → ∀ i, V k i = 0 := fun k h1 h2 i => by
    rw [v k (by omega)]
    show lkI (ivL k) i = 0
    rw [iv_0 k h2 h1]
    rfl
  have v99 := v 99 (by decide)
  have m := bM_self hB
  have n0 : Bk.n V = 0 := by show (V 99 2).toNat = 0; rw [v99]; rfl
  have r0 : Bk.rn V = 0 := by show (V 99 3).toNat = 0; rw [v99]; rfl
  have t0 : Bk.tn V = 0 := by show (V 99 4).toNat = 0; rw [v99]; rfl
  have p0 : Bk.pn V = 0 := by show (V 99 5).toNat = 0; rw [v99]; rfl
  have c0 : Bk.cn V = 0 := by show (V 99 6).toNat = 0; rw [v99]; rfl
  have d0 : Bk.dn V = 0 := by show (V 99 7).toNat = 0; rw [v99]; rfl
  have e0 : Bk.e V = 2 := by show V 99 8 = 2; rw [v99]; rfl
  refine ⟨V, fun _ _ _ => (0 : Int), 0, ⟨hB, st_FinR h⟩, ⟨?_, ?_, by decide, fun i hi => absurd hi (Nat.not_lt_zero _)⟩, ⟨?_, ?_, ?_, ?_⟩, ⟨m, ?_, ?_, ?_⟩, ?_⟩
  · exact bO_of m hB
  · exact bW_self hB ⟨fun t ht => absurd ht (by rw [v99]; exact Nat.not_lt_zero _), fun t ht => absurd ht (by rw [v99]; exact Nat.not_lt_zero _)⟩
  · refine ⟨?_, ?_, ?_, ?_, ?_, ?_, ?_, fun i hi => ?_, fun i hi => ?_, fun i hi => ?_, fun i hi => ?_, fun i hi => ?_, fun i hi => ?_⟩
    · rw [n0, v 2 (by decide)]; rfl
    · rw [e0, v 1 (by decide)]; rfl
    · rw [r0, v 4 (by decide)]; rfl
    · rw [t0, v 6 (by decide)]; rfl
    · rw [p0, v 8 (by decide)]; rfl
    · rw [c0, v 10 (by decide)]; rfl
    · rw [d0, v 12 (by decide)]; rfl
    · rw [n0] at hi; exact absurd hi (Nat.not_lt_zero _)
    · rw [r0] at hi; exact absurd hi (Nat.not_lt_zero _)
    · rw [t0] at hi; exact absurd hi (Nat.not_lt_zero _)
    · rw [p0] at hi; exact absurd hi (Nat.not_lt_zero _)
    · rw [c0] at hi; exact absurd hi (Nat.not_lt_zero _)
    · rw [d0] at hi; exact absurd hi (Nat.not_lt_zero _)
  · refine ⟨⟨fun i => Or.inl (z 104 (by decide) (by decide) i), fun i => Or.inl (z 105 (by decide) (by decide) i), fun i => Or.inl (z 108 (by decide) (by decide) i), fun i => Or.inl (z 110 (by decide) (by decide) i), fun i => Or.inl (z 115 (by decide) (by decide) i), fun i => Or.inl (z 119 (by decide) (by decide) i)⟩, ?_, fun i hi => absurd hi (Nat.not_lt_zero _)⟩
    rw [v 16 (by decide)]; rfl
  · unfold LR
    rw [v 2 (by decide), v 4 (by decide), v 6 (by decide), v 8 (by decide), v 10 (by decide), v 12 (by decide)]
    refine ⟨rfl, rfl, rfl, rfl, rfl, rfl, ?_, ?_, ?_⟩ <;> decide
  · refine ⟨fun i => 60 + i, 0, 0, ⟨fun i hi => ⟨?_, Nat.le_add_right 60 i, by show 60 + i ≤ 84; omega⟩, fun i j _ _ e => by have e : 60 + i = 60 + j := e; omega⟩, svC_0 (by rw [v 30 (by decide)]; rfl)⟩
    rw [(h 57 (Nat.zero_le _) (by decide)).2]
    exact ir_57 i hi
  · exact ⟨by rw [v99]; rfl, fun i hi => absurd hi (Nat.not_lt_zero _)⟩
  · exact Or.inl (by rw [v99]; rfl)
  · intro j hj
    rw [v 126 (by decide), v 127 (by decide)]
    exact iv_df j hj
  · unfold tpE
    rw [v 16 (by decide), v99, v 0 (by decide)]
    exact ⟨rfl, fun i hi => absurd hi (Nat.not_lt_zero _), rfl, rfl⟩
end
