/-! the class's reckoning of phases -/
def isMx (Q : (Nat → Nat) → Prop) (B : Nat) : Prop := (∃ g, Q g ∧ B = cdN g 13) ∧ ∀ g, Q g → cdN g 13 ≤ B
def dpQ (Q : Nat → (Nat → Nat) → Prop) (L W B : Nat) : Prop := (L = 1000 ∧ W = 0 ∧ B = 0 ∧ ∀ k g, ¬ Q k g) ∨ (L ≤ 13 ∧ (∀ k, k < L → ∀ g, ¬ Q k g) ∧ 1 ≤ W ∧ hasN (Q L) W ∧ isMx (Q L) B)
def inD (P : Nat) : Nat → Nat := fun j => if P.testBit j = true then 1 else 0
section
variable {mt lt : Nat → Nat → Bool} {n m k i u v D P L W B L' W' B' : Nat} {f g r : Nat → Nat} {Q Q' : Nat → (Nat → Nat) → Prop}
theorem isMx_i {A A' : (Nat → Nat) → Prop} (h : isMx A B) (e : ∀ g, A' g ↔ A g) : isMx A' B := ⟨h.1.elim fun g hg => ⟨g, (e g).mpr hg.1, hg.2⟩, fun g hg => h.2 g ((e g).mp hg)⟩
theorem dpQ_i (h : dpQ Q L W B) (e : ∀ k g, Q' k g ↔ Q k g) : dpQ Q' L W B := by
  rcases h with ⟨h1, h2, h3, h4⟩ | ⟨h1, h2, h3, h4, h5⟩
  · exact Or.inl ⟨h1, h2, h3, fun k g hg => h4 k g ((e k g).mp hg)⟩
  · exact Or.inr ⟨h1, fun k hk g hg => h2 k hk g ((e k g).mp hg), h3, hasN_i h4 (e L), isMx_i h5 (e L)⟩
theorem dpQ_b (h : dpQ Q L W B) : (L ≤ 13 ∨ L = 1000) ∧ W ≤ 1000 := by
  rcases h with ⟨h1, h2, _⟩ | ⟨h1, _, _, ⟨l, _, _, h4⟩, _⟩
  · exact ⟨Or.inr h1, by omega⟩
  · exact ⟨Or.inl h1, by omega⟩
theorem chn_le (h : chn mt lt n D k g) : k ≤ n := pig (f := fun j => g j - 1) fun v hv => by
  obtain ⟨j, j1, j2⟩ := h.2.2.1 (v + 1) (by omega) (by omega)
  exact ⟨j, j1, by show g j - 1 = v; omega⟩
theorem chn_bd (h : chn mt lt n D k g) (hn : n ≤ 13) (j : Nat) : g j < 16 := by
  have := chn_le h
  by_cases q : n ≤ j ∨ D.testBit j = true
  · rw [h.1 j q]; omega
  · have := h.2.1 j (by omega) (Bool.eq_false_iff.mpr fun z => q (Or.inr z)); omega
theorem ex_inj {a b : Nat → Nat} (ha : chn mt lt n (D ||| P) k a) (hb : chn mt lt n (D ||| P) k b) (e : extN P v a = extN P v b) : a = b := by
  funext j
  by_cases q : P.testBit j = true
  · rw [ha.1 j (Or.inr (tb_o.mpr (Or.inr q))), hb.1 j (Or.inr (tb_o.mpr (Or.inr q)))]
  · have := congrFun e j
    unfold extN at this
    rw [if_neg q, if_neg q] at this
    exact this
theorem ex_cd (h : chn mt lt n (D ||| P) k r) : cdN (extN P v r) 13 = cdN r 13 + v * cdN (inD P) 13 := cd_a fun j _ => by
  unfold extN inD
  by_cases q : P.testBit j = true
  · rw [if_pos q, if_pos q, h.1 j (Or.inr (tb_o.mpr (Or.inr q)))]; omega
  · rw [if_neg q, if_neg q]; omega
/-- those with one part more -/
def adQ (mt lt : Nat → Nat → Bool) (n D P : Nat) (Q : Nat → (Nat → Nat) → Prop) (k : Nat) (g : Nat → Nat) : Prop := Q k g ∨ ∃ k' r, k = k' + 1 ∧ chn mt lt n (D ||| P) k' r ∧ g = extN P k r
theorem ad_L : adQ mt lt n D P Q (L' + 1) g ↔ Q (L' + 1) g ∨ ∃ r, chn mt lt n (D ||| P) L' r ∧ g = extN P (L' + 1) r := by
  unfold adQ
  constructor
  · rintro (h | ⟨k', r, e, h1, h2⟩)
    · exact Or.inl h
    · obtain rfl : L' = k' := by omega
      exact Or.inr ⟨r, h1, h2⟩
  · rintro (h | ⟨r, h1, h2⟩)
    · exact Or.inl h
    · exact Or.inr ⟨L', r, rfl, h1, h2⟩
theorem mx_ex (h : isMx (chn mt lt n (D ||| P) k) B) : isMx (fun g => ∃ r, chn mt lt n (D ||| P) k r ∧ g = extN P v r) (B + v * cdN (inD P) 13) := by
  obtain ⟨⟨g, g1, g2⟩, h2⟩ := h
  refine ⟨⟨extN P v g, ⟨g, g1, rfl⟩, by rw [ex_cd g1, g2]⟩, ?_⟩
  rintro _ ⟨r, r1, rfl⟩
  have := h2 r r1
  rw [ex_cd r1]
  omega
theorem dp_a (hn : n ≤ 13) (hv : vPt mt lt n D P) (h : dpQ Q L W B) (h' : dpQ (chn mt lt n (D ||| P)) L' W' B') (q : L < L' + 1 ∨ 13 < L' + 1) : dpQ (adQ mt lt n D P Q) L W B := by
  have no : ∀ k' r, k' + 1 ≤ L ∨ L = 1000 → chn mt lt n (D ||| P) k' r → False := fun k' r hk hc => by
    have h0 := chn_le (chn_s hv hc).1
    rcases h' with ⟨_, _, _, h4⟩ | ⟨h1, h2, _⟩
    · exact h4 k' r hc
    · by_cases w : k' < L'
      · exact h2 k' w r hc
      · rcases hk with hk | hk <;> omega
  rcases h with ⟨h1, h2, h3, h4⟩ | ⟨h1, h2, h3, h4, h5⟩
  · refine Or.inl ⟨h1, h2, h3, fun k g hg => ?_⟩
    rcases hg with hg | ⟨k', r, e, hc, _⟩
    · exact h4 k g hg
    · exact no k' r (Or.inr h1) hc
  · have e : ∀ k, k ≤ L → ∀ g, adQ mt lt n D P Q k g ↔ Q k g := fun k hk g => ⟨fun z => z.elim id fun ⟨k', r, e, hc, _⟩ => absurd hc (fun hc => no k' r (Or.inl (by omega)) hc), Or.inl⟩
    exact Or.inr ⟨h1, fun k hk g hg => h2 k hk g ((e k (by omega) g).mp hg), h3, hasN_i h4 (e L (Nat.le_refl _)), isMx_i h5 (e L (Nat.le_refl _))⟩
theorem dp_b (h : dpQ Q L W B) (h' : dpQ (chn mt lt n (D ||| P)) L' W' B') (q : L' + 1 < L) (q2 : L' + 1 ≤ 13) : dpQ (adQ mt lt n D P Q) (L' + 1) W' (B' + (L' + 1) * cdN (inD P) 13) := by
  have no : ∀ k, k ≤ L' + 1 → ∀ g, ¬ Q k g := fun k hk g hg => by
    rcases h with ⟨_, _, _, h4⟩ | ⟨_, h2, _⟩
    · exact h4 k g hg
    · exact h2 k (by omega) g hg
  rcases h' with ⟨h1, _⟩ | ⟨h1, h2, h3, h4, h5⟩
  · omega
  · have e : ∀ g, adQ mt lt n D P Q (L' + 1) g ↔ ∃ r, chn mt lt n (D ||| P) L' r ∧ g = extN P (L' + 1) r := fun g => ad_L.trans ⟨fun z => z.elim (fun y => absurd y (no _ (Nat.le_refl _) g)) id, Or.inr⟩
    refine Or.inr ⟨q2, fun k hk g hg => ?_, h3, hasN_i (hasN_m (extN P (L' + 1)) h4 fun a b ha hb => ex_inj ha hb) e, isMx_i (mx_ex h5) e⟩
    rcases hg with hg | ⟨k', r, e', hc, _⟩
    · exact no k (by omega) g hg
    · exact h2 k' (by omega) r hc
theorem dp_c (hv : vPt mt lt n D P) (h : dpQ Q L W B) (h' : dpQ (chn mt lt n (D ||| P)) L' W' B') (q : L' + 1 = L) (q2 : L ≤ 13) (hd : ∀ g, Q L g → topS n L g P → False) : dpQ (adQ mt lt n D P Q) L (min 1000 (W + W')) (max B (B' + L * cdN (inD P) 13)) := by
  subst q
  rcases h' with ⟨h1, _⟩ | ⟨h1, h2, h3, h4, h5⟩
  · omega
  · rcases h with ⟨g1, _⟩ | ⟨g1, g2, g3, g4, g5⟩
    · omega
    · have hm := hasN_a g4 (hasN_m (extN P (L' + 1)) h4 fun a b ha hb => ex_inj ha hb) (fun g z ⟨r, r1, r2⟩ => hd g z (r2 ▸ (chn_s hv r1).2))
      refine Or.inr ⟨q2, fun k hk g hg => ?_, by omega, hasN_i hm fun g => ad_L, ?_⟩
      · rcases hg with hg | ⟨k', r, e', hc, _⟩
        · exact g2 k hk g hg
        · exact h2 k' (by omega) r hc
      · have m2 := mx_ex (v := L' + 1) h5
        refine ⟨?_, fun g hg => ?_⟩
        · rcases Nat.le_total B (B' + (L' + 1) * cdN (inD P) 13) with w | w
          · rw [Nat.max_eq_right w]
            obtain ⟨g, z1, z2⟩ := m2.1
            exact ⟨g, ad_L.mpr (Or.inr z1), z2⟩
          · rw [Nat.max_eq_left w]
            obtain ⟨g, z1, z2⟩ := g5.1
            exact ⟨g, ad_L.mpr (Or.inl z1), z2⟩
        · rcases ad_L.mp hg with z | z
          · exact Nat.le_trans (g5.2 g z) (Nat.le_max_left _ _)
          · exact Nat.le_trans (m2.2 g z) (Nat.le_max_right _ _)
/-- rows whose next part is not below t -/
def qT (mt lt : Nat → Nat → Bool) (n D t k : Nat) (g : Nat → Nat) : Prop := chn mt lt n D k g ∧ 1 ≤ k ∧ ∃ P, t ≤ P ∧ topS n k g P
theorem qT_ad (hv : vPt mt lt n D P) : qT mt lt n D P k g ↔ adQ mt lt n D P (qT mt lt n D (P + 1)) k g := by
  constructor
  · rintro ⟨h1, h2, P', h3, h4⟩
    by_cases w : P' = P
    · subst w
      obtain ⟨k', rfl⟩ : ∃ k', k = k' + 1 := ⟨k - 1, by omega⟩
      obtain ⟨_, r, r1, r2⟩ := chn_b h1 h4
      exact Or.inr ⟨k', r, rfl, r1, r2⟩
    · exact Or.inl ⟨h1, h2, P', by omega, h4⟩
  · rintro (⟨h1, h2, P', h3, h4⟩ | ⟨k', r, rfl, h1, rfl⟩)
    · exact ⟨h1, h2, P', by omega, h4⟩
    · have := chn_s hv h1
      exact ⟨this.1, by omega, P, Nat.le_refl _, this.2⟩
theorem qT_sk {t p : Nat} (h : ∀ P, t ≤ P → P < p → ¬ vPt mt lt n D P) (ht : t ≤ p) : qT mt lt n D t k g ↔ qT mt lt n D p k g := by
  constructor
  · rintro ⟨h1, h2, P', h3, h4⟩
    obtain ⟨k', rfl⟩ : ∃ k', k = k' + 1 := ⟨k - 1, by omega⟩
    refine ⟨h1, h2, P', ?_, h4⟩
    rcases Nat.lt_or_ge P' p with q | q
    · exact absurd (chn_b h1 h4).1 (h P' h3 q)
    · exact q
  · rintro ⟨h1, h2, P', h3, h4⟩
    exact ⟨h1, h2, P', by omega, h4⟩
theorem qT_no (h : ∀ P, v ≤ P → ¬ vPt mt lt n D P) : ¬ qT mt lt n D v k g := by
  rintro ⟨h1, h2, P', h3, h4⟩
  obtain ⟨k', rfl⟩ : ∃ k', k = k' + 1 := ⟨k - 1, by omega⟩
  exact h P' h3 (chn_b h1 h4).1
theorem qT_all (hD : ∃ j, j < n ∧ D.testBit j = false) : chn mt lt n D k g ↔ qT mt lt n D 1 k g := by
  refine ⟨fun h => ?_, fun h => h.1⟩
  obtain ⟨j, j1, j2⟩ := hD
  have := h.2.1 j j1 j2
  obtain ⟨P, p1, p2⟩ := top_ex (k := k) (g := g) n
  refine ⟨h, by omega, P, ?_, p2⟩
  obtain ⟨i, i1, i2⟩ := h.2.2.1 k (by omega) (Nat.le_refl _)
  have hb := (p2 i).mpr ⟨i1, i2⟩
  apply Classical.byContradiction
  intro z
  rw [show P = 0 by omega, Nat.zero_testBit] at hb
  cases hb
theorem dp_full (hD : ∀ j, j < n → D.testBit j = true) : dpQ (chn mt lt n D) 0 1 0 := by
  have z : ∀ m, cdN (fun _ => 0) m = 0 := fun m => by
    induction m with
    | zero => rfl
    | succ m ih => show cdN (fun _ => 0) m * 16 + 0 = 0; rw [ih]
  have e : ∀ g, chn mt lt n D 0 g ↔ g = fun _ => 0 := fun g => by
    constructor
    · intro h
      funext j
      exact h.1 j ((Nat.lt_or_ge j n).elim (fun q => Or.inr (hD j q)) Or.inl)
    · rintro rfl
      exact ⟨fun _ _ => rfl, fun j hj hd => absurd hd (by rw [hD j hj]; decide), fun v h1 h2 => absurd h1 (by omega), fun i j hi _ _ hd => absurd hd (by rw [hD i hi]; decide)⟩
  refine Or.inr ⟨by omega, fun k hk => by omega, by omega, ⟨[fun _ => 0], ?_, fun g => ?_, rfl⟩, ⟨fun _ => 0, (e _).mpr rfl, (z 13).symm⟩, fun g hg => ?_⟩
  · rw [List.nodup_cons]; exact ⟨List.not_mem_nil, List.nodup_nil⟩
  · rw [List.mem_singleton, e]
  · rw [(e g).mp hg, z 13]; omega
/-! both reckonings give one answer -/
theorem ch_ph (h : chn mt lt n 0 k g) : phO mt lt n k (fun j => if j < n then k - g j else 0) := by
  obtain ⟨h1, h2, h3, h4⟩ := h
  have hz : ∀ j, Nat.testBit 0 j = false := fun j => Nat.zero_testBit j
  refine ⟨fun i hi => ?_, fun i j hi hj hij => ?_⟩
  · show (if i < n then k - g i else 0) < k
    have := h2 i hi (hz i)
    rw [if_pos hi]; omega
  · have a := h2 i hi (hz i)
    have b := h2 j hj (hz j)
    have c := h4 i j hi hj hij (hz i) (hz j)
    show (mt i j = true → (if i < n then k - g i else 0) ≠ if j < n then k - g j else 0) ∧ (lt i j = true → (if j < n then k - g j else 0) < if i < n then k - g i else 0)
    rw [if_pos hi, if_pos hj]
    refine ⟨fun z => ?_, fun z => ?_⟩
    · have := c.1 z; omega
    · have := c.2 z; omega
/-- a row with a gap can do with one phase less -/
theorem ph_gap (h : phO mt lt n (m + 1) f) (hv : v < m + 1) (hg : ∀ i, i < n → f i ≠ v) : phO mt lt n m (fun j => if v < f j then f j - 1 else f j) := by
  refine ⟨fun i hi => ?_, fun i j hi hj hij => ?_⟩
  · show (if v < f i then f i - 1 else f i) < m
    have a := h.1 i hi
    have b := hg i hi
    split <;> omega
  · have a := hg i hi
    have b := hg j hj
    have c := h.2 i j hi hj hij
    show (mt i j = true → (if v < f i then f i - 1 else f i) ≠ if v < f j then f j - 1 else f j) ∧ (lt i j = true → (if v < f j then f j - 1 else f j) < if v < f i then f i - 1 else f i)
    refine ⟨fun z => ?_, fun z => ?_⟩
    · have := c.1 z; split <;> split <;> omega
    · have := c.2 z; split <;> split <;> omega
theorem ph_sur (h : phO mt lt n m f) (hm : ∀ m', m' < m → ∀ f, ¬ phO mt lt n m' f) (hv : v < m) : ∃ i, i < n ∧ f i = v := by
  apply Classical.byContradiction
  intro z
  obtain ⟨m', rfl⟩ : ∃ m', m = m' + 1 := ⟨m - 1, by omega⟩
  exact hm m' (by omega) _ (ph_gap h hv (fun i hi e => z ⟨i, hi, e⟩))
theorem ph_ch (h : phO mt lt n m f) (hm : ∀ m', m' < m → ∀ f, ¬ phO mt lt n m' f) : chn mt lt n 0 m (fun j => if j < n then m - f j else 0) := by
  refine ⟨fun j hj => ?_, fun j hj _ => ?_, fun v h1 h2 => ?_, fun i j hi hj hij _ _ => ?_⟩
  · rcases hj with q | q
    · exact if_neg (by omega)
    · rw [Nat.zero_testBit] at q; cases q
  · have := h.1 j hj
    show 1 ≤ (if j < n then m - f j else 0) ∧ (if j < n then m - f j else 0) ≤ m
    rw [if_pos hj]; omega
  · obtain ⟨i, i1, i2⟩ := ph_sur h hm (v := m - v) (by omega)
    refine ⟨i, i1, ?_⟩
    show (if i < n then m - f i else 0) = v
    rw [if_pos i1]; omega
  · have a := h.1 i hi
    have b := h.1 j hj
    have c := h.2 i j hi hj hij
    show (mt i j = true → (if i < n then m - f i else 0) ≠ if j < n then m - f j else 0) ∧ (lt i j = true → (if i < n then m - f i else 0) < if j < n then m - f j else 0)
    rw [if_pos hi, if_pos hj]
    refine ⟨fun z => ?_, fun z => ?_⟩
    · have := c.1 z; omega
    · have := c.2 z; omega
theorem ph_no (h : dpQ (chn mt lt n 0) L W B) (hno : ∀ m f, ¬ phO mt lt n m f) : L = 1000 := by
  rcases h with ⟨h1, _⟩ | ⟨h1, h2, h3, h4, h5⟩
  · exact h1
  · obtain ⟨g, hg⟩ := (hasN_p h4).mp h3
    exact absurd (ch_ph hg) (hno _ _)
theorem ph_eq (hn : n ≤ 13) (hs : ∀ i j, mt i j = mt j i) (h : dpQ (chn mt lt n 0) L W B) {f0 : Nat → Nat} {t : List (Nat → Nat)} (hm : ∀ m', m' < m → nbL mt lt m' n 0 (fun _ => 0) = []) (hl : nbL mt lt m n 0 (fun _ => 0) = f0 :: t) :
    (L = m ∧ m ≤ n) ∧ W = min 1000 (nbL mt lt m n 0 (fun _ => 0)).length ∧ ∀ i, i < n → f0 i < m ∧ B / 16 ^ (12 - i) % 16 = m - f0 i := by
  have can : ∀ {m f}, phO mt lt n m f → phO mt lt n m (fun j => if j < n then f j else 0) := fun {m f} hf => ⟨fun i hi => by show (if i < n then f i else 0) < m; rw [if_pos hi]; exact hf.1 i hi, fun i j hi hj hij => by
    show (mt i j = true → (if i < n then f i else 0) ≠ if j < n then f j else 0) ∧ (lt i j = true → (if j < n then f j else 0) < if i < n then f i else 0)
    rw [if_pos hi, if_pos hj]; exact hf.2 i j hi hj hij⟩
  have hm' : ∀ m', m' < m → ∀ f, ¬ phO mt lt n m' f := fun m' h1 f hf => by
    have := (nb_ok hs).mpr ⟨can hf, fun j hj => if_neg (by omega)⟩
    rw [hm m' h1] at this
    exact absurd this List.not_mem_nil
  have h0 := (nb_ok hs).mp (show f0 ∈ nbL mt lt m n 0 (fun _ => 0) by rw [hl]; exact List.mem_cons_self)
  have c0 := ph_ch h0.1 hm'
  rcases h with ⟨_, _, _, h4⟩ | ⟨h1, h2, h3, h4, h5⟩
  · exact absurd c0 (h4 _ _)
  · have eL : L = m := by
      rcases Nat.lt_trichotomy L m with q | q | q
      · obtain ⟨g, hg⟩ := (hasN_p h4).mp h3
        exact absurd (ch_ph hg) (hm' L q _)
      · exact q
      · exact absurd c0 (h2 m q _)
    subst eL
    have inj : ∀ a b, a ∈ nbL mt lt L n 0 (fun _ => 0) → b ∈ nbL mt lt L n 0 (fun _ => 0) → (fun j => if j < n then L - a j else 0) = (fun j => if j < n then L - b j else 0) → a = b := fun a b ha hb e => by
      have a1 := (nb_ok hs).mp ha
      have b1 := (nb_ok hs).mp hb
      funext j
      by_cases q : j < n
      · have e1 := congrFun e j
        have e2 : (if j < n then L - a j else 0) = if j < n then L - b j else 0 := e1
        rw [if_pos q, if_pos q] at e2
        have := a1.1.1 j q
        have := b1.1.1 j q
        omega
      · rw [a1.2 j (by omega), b1.2 j (by omega)]
    have hb : hasN (fun g => g ∈ nbL mt lt L n 0 (fun _ => 0)) (min 1000 (nbL mt lt L n 0 (fun _ => 0)).length) := ⟨_, nb_nd (n := n) n 0 _ (Nat.zero_add _), fun g => Iff.rfl, rfl⟩
    have hc := hasN_m (fun a j => if j < n then L - a j else 0) hb inj
    have hd : hasN (chn mt lt n 0 L) (min 1000 (nbL mt lt L n 0 (fun _ => 0)).length) := hasN_i hc fun g => by
      constructor
      · intro hg
        refine ⟨fun j => if j < n then L - g j else 0, (nb_ok hs).mpr ⟨ch_ph hg, fun j hj => if_neg (by omega)⟩, ?_⟩
        funext j
        show g j = if j < n then L - (if j < n then L - g j else 0) else 0
        by_cases q : j < n
        · have := hg.2.1 j q (Nat.zero_testBit j)
          rw [if_pos q, if_pos q]; omega
        · rw [if_neg q]; exact hg.1 j (Or.inl (by omega))
      · rintro ⟨a, ha, rfl⟩
        exact ph_ch ((nb_ok hs).mp ha).1 hm'
    refine ⟨⟨rfl, chn_le c0⟩, hasN_u h4 hd, ?_⟩
    obtain ⟨⟨g, g1, g2⟩, g3⟩ := h5
    have g4 := g3 _ c0
    have eg : g = fun j => if j < n then L - f0 j else 0 := by
      have hg := (nb_ok hs).mpr ⟨ch_ph g1, fun j hj => if_neg (by omega)⟩
      have ce : ∀ j, j < n → (if j < n then L - g j else 0) = L - g j := fun j hj => if_pos hj
      rcases nb_fst (n := n) n 0 (fun _ => 0) (Nat.zero_add _) f0 t hl _ hg with e | ⟨a, a1, a2, a3⟩
      · funext j
        have e1 : f0 j = if j < n then L - g j else 0 := congrFun e j
        by_cases q : j < n
        · have := g1.2.1 j q (Nat.zero_testBit j)
          rw [ce j q] at e1
          show g j = if j < n then L - f0 j else 0
          rw [if_pos q]; omega
        · show g j = if j < n then L - f0 j else 0
          rw [if_neg q]; exact g1.1 j (Or.inl (by omega))
      · exfalso
        have lx := cd_lx (g := g) (h := fun j => if j < n then L - f0 j else 0) (n := 13) (i := a) (chn_bd g1 hn) (chn_bd c0 hn) (by omega) (fun j hj => ?_) ?_
        · omega
        · have e1 : f0 j = if j < n then L - g j else 0 := a2 j hj
          have := g1.2.1 j (by omega) (Nat.zero_testBit j)
          rw [ce j (by omega)] at e1
          show g j = if j < n then L - f0 j else 0
          rw [if_pos (by omega)]; omega
        · have e1 : f0 a < if a < n then L - g a else 0 := a3
          have := g1.2.1 a a1 (Nat.zero_testBit a)
          rw [ce a a1] at e1
          show g a < if a < n then L - f0 a else 0
          rw [if_pos a1]; omega
    intro i hi
    refine ⟨h0.1.1 i hi, ?_⟩
    have := cd_d (g := g) (n := 13) (i := i) (chn_bd g1 hn) (by omega)
    rw [← g2] at this
    rw [show 12 - i = 13 - 1 - i by omega, this, eg]
    exact if_pos hi
/-! which are later than which, through others -/
def warS (T : Nat → Nat → Bool) : Nat → Nat → Nat → Bool
  | 0, i, j => T i j
  | m + 1, i, j => warS T m i j || (warS T m i m && warS T m m j)
theorem war_up {T : Nat → Nat → Bool} {i j : Nat} (h : T i j = true) : ∀ m, warS T m i j = true
  | 0 => h
  | m + 1 => by show (warS T m i j || _) = true; rw [war_up h m]; rfl
theorem war_tr {T : Nat → Nat → Bool} : ∀ (m k i j : Nat), k < m → warS T m i k = true → warS T m k j = true → warS T m i j = true
  | 0, k, i, j, hk, _, _ => absurd hk (Nat.not_lt_zero _)
  | m + 1, k, i, j, hk, h1, h2 => by
    have st : ∀ a b, warS T (m + 1) a b = true ↔ warS T m a b = true ∨ (warS T m a m = true ∧ warS T m m b = true) := fun a b => by
      show (warS T m a b || (warS T m a m && warS T m m b)) = true ↔ _
      rw [Bool.or_eq_true, Bool.and_eq_true]
    rw [st] at h1 h2 ⊢
    by_cases q : k = m
    · subst q
      have a1 : warS T k i k = true := h1.elim id fun z => z.1
      have a2 : warS T k k j = true := h2.elim id fun z => z.2
      exact Or.inr ⟨a1, a2⟩
    · have tr := fun i j => war_tr (T := T) m k i j (by omega)
      rcases h1 with h1 | ⟨a, b⟩ <;> rcases h2 with h2 | ⟨c, d⟩
      · exact Or.inl (tr i j h1 h2)
      · exact Or.inr ⟨tr i m h1 c, d⟩
      · exact Or.inr ⟨a, tr m j b h2⟩
      · exact Or.inr ⟨a, d⟩
theorem war_so (hn : ∀ i, lt i i = false) (h : phO mt lt n m f) : ∀ (u i j : Nat), u ≤ n → i < n → j < n → warS lt u i j = true → f j < f i
  | 0, i, j, _, hi, hj, h1 => by
    have h1' : lt i j = true := h1
    have : i ≠ j := fun e => by rw [e, hn j] at h1'; cases h1'
    exact (h.2 i j hi hj this).2 h1'
  | u + 1, i, j, hu, hi, hj, h1 => by
    have h1' : (warS lt u i j || (warS lt u i u && warS lt u u j)) = true := h1
    rw [Bool.or_eq_true, Bool.and_eq_true] at h1'
    rcases h1' with z | ⟨a, b⟩
    · exact war_so hn h u i j (by omega) hi hj z
    · have := war_so hn h u i u (by omega) hi (by omega) a
      have := war_so hn h u u j (by omega) (by omega) hj b
      omega
theorem cnt_ss {p q : Nat → Bool} : ∀ {n : Nat}, (∀ i, i < n → p i = true → q i = true) → cntB p n ≤ cntB q n ∧ ((∃ i, i < n ∧ p i = false ∧ q i = true) → cntB p n < cntB q n)
  | 0, _ => ⟨Nat.le_refl _, fun ⟨i, hi, _⟩ => absurd hi (Nat.not_lt_zero _)⟩
  | n + 1, h => by
    obtain ⟨a, b⟩ := cnt_ss (p := p) (q := q) (n := n) (fun i hi => h i (by omega))
    have hn := h n (by omega)
    have e1 : cntB p (n + 1) = cntB p n + (if p n = true then 1 else 0) := rfl
    have e2 : cntB q (n + 1) = cntB q n + (if q n = true then 1 else 0) := rfl
    rw [e1, e2]
    refine ⟨?_, ?_⟩
    · by_cases z : p n = true
      · rw [if_pos z, if_pos (hn z)]; omega
      · rw [if_neg z]; split <;> omega
    · rintro ⟨i, i1, i2, i3⟩
      by_cases w : i = n
      · subst w
        rw [i2, i3, if_neg (by decide), if_pos rfl]; omega
      · have := b ⟨i, by omega, i2, i3⟩
        by_cases z : p n = true
        · rw [if_pos z, if_pos (hn z)]; omega
        · rw [if_neg z]; split <;> omega
/-- where there is no round there is a row -/
theorem war_ex (hr : ∀ i, i < n → warS lt n i i = false) : ∃ m f, phO mt lt n m f := by
  refine ⟨(n + 1) * (n + 1), fun i => cntB (fun x => warS lt n i x) n * n + i, fun i hi => ?_, fun i j hi hj hij => ⟨fun _ e => ?_, fun hl => ?_⟩⟩
  · have : cntB (fun x => warS lt n i x) n ≤ n := cntB_le
    show cntB (fun x => warS lt n i x) n * n + i < (n + 1) * (n + 1)
    have h2 := Nat.mul_le_mul_right n this
    rw [Nat.add_mul, Nat.mul_add]
    omega
  · have e' : cntB (fun x => warS lt n i x) n * n + i = cntB (fun x => warS lt n j x) n * n + j := e
    have h1 : (cntB (fun x => warS lt n i x) n * n + i) % n = i := by rw [Nat.add_comm, Nat.add_mul_mod_self_right, Nat.mod_eq_of_lt hi]
    have h2 : (cntB (fun x => warS lt n j x) n * n + j) % n = j := by rw [Nat.add_comm, Nat.add_mul_mod_self_right, Nat.mod_eq_of_lt hj]
    rw [e', h2] at h1
    exact hij h1.symm
  · have hij2 := war_up (T := lt) hl n
    have := (cnt_ss (p := fun x => warS lt n j x) (q := fun x => warS lt n i x) (n := n) (fun x _ hx => war_tr n j i x hj hij2 hx)).2 ⟨j, hj, hr j hj, hij2⟩
    have h2 := Nat.mul_le_mul_right n (show cntB (fun x => warS lt n j x) n + 1 ≤ cntB (fun x => warS lt n i x) n from this)
    show cntB (fun x => warS lt n j x) n * n + j < cntB (fun x => warS lt n i x) n * n + i
    rw [Nat.add_mul] at h2
    omega
end
