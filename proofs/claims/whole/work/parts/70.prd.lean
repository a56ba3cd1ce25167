/-! the class's read: its start -/
theorem uV_cell {V : VV} {a i k : Nat} {x : Int} (h : k ≠ a) : uV V a i x k = V k := by funext j; exact uV_ne (fun z => h z.1)
theorem cs_self {V : VV} {f p : Nat} (h : V 16 6 = f) : uV V 16 7 (p : Int) = csV V f p V := by
  funext k j
  unfold uV csV
  by_cases h1 : k = 16
  · subst h1
    by_cases h2 : j = 7
    · subst h2; simp
    · by_cases h3 : j = 6
      · subst h3; simp [h]
      · simp [h2, h3]
  · simp [h1]
theorem rd_start {V : VV} {n f : Nat} (h : V 16 6 = f) : ∃ q, nextC (uV V 16 7 0) n 0 = csV V (skipB (V 17) n 0) q V ∧ cO (V 17) n (skipB (V 17) n 0) q := by
  have e := cs_self (p := 0) h
  have hs := skipB_le (t := V 17) (Nat.zero_le n)
  rw [show ((0 : Nat) : Int) = 0 from rfl] at e
  rw [e]
  unfold nextC
  rw [cs_17]
  by_cases h2 : skipB (V 17) n 0 < n
  · rw [if_pos h2, cs_tok]
    exact ⟨_, rfl, hs.2, (tokE_le hs.2).2.1, fun _ => rfl⟩
  · rw [if_neg h2, cs_at]
    exact ⟨0, rfl, hs.2, Nat.zero_le _, fun z => absurd z h2⟩
theorem cls_flt {t : Nat → Int} {n rd : Nat} : ∀ {c f : Nat} {lo hi : Nat → Int}, (cls t n rd c f lo hi).2.1 = -1 ∨ (cls t n rd c f lo hi).2.1 = ((cls t n rd c f lo hi).1 : Int)
  | 0, f, lo, hi => Or.inr rfl
  | c + 1, f, lo, hi => by
    by_cases q : (clS t n f rd lo hi).2.1 = -1 ∧ (clS t n f rd lo hi).1 < n ∧ t (clS t n f rd lo hi).1 = 44
    · rw [cls_s q]; exact cls_flt
    · rw [cls_e q]; exact clS_flt
theorem kF_flt {t : Nat → Int} {n rd : Nat} {r : Nat × Int × (Nat → Int) × (Nat → Int)} (h : r.2.1 = -1 ∨ r.2.1 = (r.1 : Int)) : (kF t n rd r).2.1 = -1 ∨ (kF t n rd r).2.1 = ((kF t n rd r).1 : Int) := by
  unfold kF
  by_cases h2 : ¬ r.2.1 = -1
  · rw [if_pos h2]; exact h
  · rw [if_neg h2]
    by_cases h3 : r.1 < n ∧ t r.1 = 125
    · rw [if_pos h3]; exact Or.inl rfl
    · rw [if_neg h3]; exact Or.inr rfl
theorem kdS_flt {t lo hi : Nat → Int} {n f rd : Nat} : (kdS t n f rd lo hi).2.1 = -1 ∨ (kdS t n f rd lo hi).2.1 = ((kdS t n f rd lo hi).1 : Int) := by
  by_cases hr : rd = 5 ∨ ¬ wdb 0 t f (tokE t n f) = true
  · unfold kdS
    rw [if_pos hr]; exact Or.inr rfl
  · have hr5 : ¬ rd = 5 := fun z => hr (Or.inl z)
    have hw : wdb 0 t f (tokE t n f) = true := Classical.byContradiction fun z => hr (Or.inr z)
    by_cases h1 : nxt t n f < n ∧ t (nxt t n f) = 123
    · rw [kd_k hr5 hw h1]
      apply kF_flt
      by_cases h2 : nxt t n (nxt t n f) < n ∧ t (nxt t n (nxt t n f)) = 125
      · rw [if_pos h2]; exact Or.inl rfl
      · rw [if_neg h2]; exact cls_flt
    · rw [kd_b hr5 hw h1]; exact Or.inr rfl
theorem kds_flt {t : Nat → Int} {n : Nat} : ∀ {c f rd : Nat} {lo hi : Nat → Int}, (kdsF t n c f rd lo hi).2.1 = -1 ∨ (kdsF t n c f rd lo hi).2.1 = ((kdsF t n c f rd lo hi).1 : Int)
  | 0, f, rd, lo, hi => Or.inr rfl
  | c + 1, f, rd, lo, hi => by
    by_cases q : (kdS t n f rd lo hi).2.1 = -1 ∧ (kdS t n f rd lo hi).1 < n ∧ t (kdS t n f rd lo hi).1 = 59
    · rw [kds_c q]; exact kds_flt
    · rw [kds_e q]; exact kdS_flt
theorem kds_m5 {t : Nat → Int} {n : Nat} : ∀ {c f rd : Nat} {lo hi : Nat → Int}, f ≤ n → rd ≤ 5 → (kdsF t n c f rd lo hi).2.2.1 ≤ 5
  | 0, f, rd, lo, hi, hf, h => h
  | c + 1, f, rd, lo, hi, hf, h => by
    have hk := kdS_le (t := t) (n := n) (f := f) (lo := lo) (hi := hi) hf h
    by_cases q : (kdS t n f rd lo hi).2.1 = -1 ∧ (kdS t n f rd lo hi).1 < n ∧ t (kdS t n f rd lo hi).1 = 59
    · rw [kds_c q]; exact kds_m5 (nxt_le (t := t) hk.2.1).2.1 hk.2.2.2
    · rw [kds_e q]; exact hk.2.2.2
theorem kF_o {t lo hi : Nat → Int} {n : Nat} (h : ¬ n ≤ skipB t n 0) (hk : ksO n (kdsF t n 401 (skipB t n 0) 0 lo hi)) : kinF t n lo hi = -1 := by
  unfold kinF kinR
  rw [if_neg h, if_neg (fun z => hk.2 z.2)]
  exact hk.1
theorem kF_n {t lo hi : Nat → Int} {n : Nat} (h : ¬ n ≤ skipB t n 0) (hk : ¬ ksO n (kdsF t n 401 (skipB t n 0) 0 lo hi)) : kinF t n lo hi = ((kdsF t n 401 (skipB t n 0) 0 lo hi).1 : Int) := by
  unfold kinF kinR
  rw [if_neg h]
  rcases kds_flt (t := t) (n := n) (c := 401) (f := skipB t n 0) (rd := 0) (lo := lo) (hi := hi) with q | q
  · rw [if_pos ⟨q, Classical.byContradiction fun z => hk ⟨q, z⟩⟩]
  · rw [if_neg (fun z => by have := z.1; omega), q]
theorem kF_0 {t lo hi : Nat → Int} {n : Nat} (h : n ≤ skipB t n 0) : kinF t n lo hi = -1 ∧ (kinR t n lo hi).2.2.1 = 0 := by
  unfold kinF kinR
  rw [if_pos h]
  constructor
  · rw [if_neg (fun z => by have : skipB t n 0 < n := z.2; omega)]
  · rfl
/-- the class's read: what stands behind it -/
def rdQ (V : VV) (R : RR) (n : Nat) (lo hi : Nat → Int) : Option AV → VV → RR → Prop := fun r V' R' => R = R' ∧ Bd V' ∧ (∀ k j : Nat, k ≠ 16 → ¬ (19 ≤ k ∧ k ≤ 23) → ¬ (25 ≤ k ∧ k ≤ 29) → V' k j = V k j) ∧ V' 16 1 = 0 ∧ V' 16 5 = kinF (V 17) n lo hi ∧ r = some (vi (bi (decide (kinF (V 17) n lo hi = -1)))) ∧
  (if kinF (V 17) n lo hi = -1 then V' 16 4 = ((kinR (V 17) n lo hi).2.2.1 : Int) ∧ ∀ r, r < (kinR (V 17) n lo hi).2.2.1 → dR r (kinR (V 17) n lo hi).2.2.2.1 (kinR (V 17) n lo hi).2.2.2.2 (V' (19 + r))
   else V' 16 4 = V 16 4 ∧ ∀ k, 19 ≤ k ∧ k ≤ 23 → V' k = V k)
/-- the first i rows told as drafted -/
def tl (W : VV) (i : Nat) (X : VV) : Prop := (∀ k, ¬ (19 ≤ k ∧ k < 19 + i) → X k = W k) ∧ ∀ k j, 19 ≤ k → k < 19 + i → j < 20 → X k j = W (k + 6) j
theorem tl_0 {W : VV} : tl W 0 W := ⟨fun _ _ => rfl, fun k j h1 h2 => by omega⟩
theorem tl_s {W X X' : VV} {i a b : Nat} (ha : a = 19 + i) (hb : b = 25 + i) (hi : i < 5) (h : tl W i X) (e : X' = cV X a (cpF (X b) (X a) (0 : Int).toNat (0 : Int).toNat (20 : Int).toNat)) : tl W (i + 1) X' := by
  subst ha hb e
  refine ⟨fun k hk => ?_, fun k j h1 h2 h3 => ?_⟩
  · rw [← h.1 k (by omega)]
    funext j
    unfold cV
    rw [if_neg (by omega)]
  · unfold cV
    by_cases q : k = 19 + i
    · rw [if_pos q]
      unfold cpF
      rw [if_pos ⟨by simp, by simp; omega⟩, show ((0 : Int).toNat + (j - (0 : Int).toNat)) = j by simp, h.1 _ (by omega), q, show 19 + i + 6 = 25 + i by omega]
    · rw [if_neg q]; exact h.2 k j h1 (by omega) h3
theorem rd_T {V W X V' : VV} {R : RR} {n c f q : Nat} {fl : Int} {D : Nat → Nat → Int} {lo hi : Nat → Int} (eW : W = uV (uV (csV V f q D) 16 5 fl) 16 1 0) (hfl : fl = -1) (hk : kinF (V 17) n lo hi = -1) (hc : (kinR (V 17) n lo hi).2.2.1 = c) (hd : dKs c (kinR (V 17) n lo hi).2.2.2.1 (kinR (V 17) n lo hi).2.2.2.2 D) (ht : tl W c X) (hc5 : c ≤ 5) (e : V' = uV X 16 4 (c : Int)) (hB : Bd V') : rdQ V R n lo hi (some (vi (bi true))) V' R := by
  have e16 : V' 16 = uV W 16 4 (c : Int) 16 := by
    rw [e]; funext j; unfold uV; rw [ht.1 16 (by omega)]
  refine ⟨rfl, hB, fun k j h1 h2 h3 => ?_, ?_, ?_, ?_, ?_⟩
  · rw [e, uV_cell h1, ht.1 k (by omega), eW, uV_cell h1, uV_cell h1]
    unfold csV
    rw [if_neg h1, if_neg h3]
  · rw [e16, eW]; rfl
  · rw [e16, eW, hk, ← hfl]; rfl
  · rw [hk]; rfl
  · rw [if_pos hk, hc]
    refine ⟨by rw [e16]; rfl, fun r hr => ?_⟩
    have hdr := hd r hr
    intro s hs
    have g1 := ht.2 (19 + r) s (by omega) (by omega) (by omega)
    have g2 := ht.2 (19 + r) (10 + s) (by omega) (by omega) (by omega)
    have c1 : csV V f q D (25 + r) = D (25 + r) := by
      funext j
      unfold csV
      rw [if_neg (by omega), if_pos (by omega)]
    rw [e, uV_cell (by omega), g1, g2, eW, show 19 + r + 6 = 25 + r by omega, uV_cell (by omega), uV_cell (by omega), c1]
    exact hdr s hs
theorem rd_F {V V' : VV} {R : RR} {n f q : Nat} {fl : Int} {D : Nat → Nat → Int} {lo hi : Nat → Int} (e : V' = uV (uV (csV V f q D) 16 5 fl) 16 1 0) (hfl : fl = (f : Int)) (hk : kinF (V 17) n lo hi = f) (hB : Bd V') : rdQ V R n lo hi (some (vi (bi false))) V' R := by
  refine ⟨rfl, hB, fun k j h1 h2 h3 => ?_, ?_, ?_, ?_, ?_⟩
  · rw [e, uV_cell h1, uV_cell h1]
    unfold csV
    rw [if_neg h1, if_neg h3]
  · rw [e]; rfl
  · rw [e, hk, ← hfl]; rfl
  · rw [hk, decide_eq_false (by omega)]
  · rw [hk, if_neg (by omega)]
    refine ⟨by rw [e]; rfl, fun k hk => ?_⟩
    funext j
    rw [e, uV_cell (by omega), uV_cell (by omega)]
    unfold csV
    rw [if_neg (by omega), if_neg (by omega)]
