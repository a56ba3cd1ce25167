/-! rows of digits as numbers -/
def cdN (g : Nat → Nat) : Nat → Nat
  | 0 => 0
  | n + 1 => cdN g n * 16 + g n
section
variable {g h r : Nat → Nat} {n i : Nat}
theorem cd_x : ∀ {n : Nat}, (∀ j, j < n → g j = h j) → cdN g n = cdN h n
  | 0, _ => rfl
  | n + 1, e => by
    show cdN g n * 16 + g n = cdN h n * 16 + h n
    rw [cd_x (fun j hj => e j (by omega)), e n (by omega)]
theorem cd_a {c : Nat} : ∀ {n : Nat}, (∀ j, j < n → g j = h j + c * r j) → cdN g n = cdN h n + c * cdN r n
  | 0, _ => by show 0 = 0 + c * 0; omega
  | n + 1, e => by
    show cdN g n * 16 + g n = cdN h n * 16 + h n + c * (cdN r n * 16 + r n)
    rw [cd_a (fun j hj => e j (by omega)), e n (by omega), Nat.mul_add, Nat.add_mul, Nat.mul_assoc]
    omega
theorem cd_d (hb : ∀ j, g j < 16) (hi : i < n) : cdN g n / 16 ^ (n - 1 - i) % 16 = g i := by
  induction n with
  | zero => omega
  | succ n ih =>
    show (cdN g n * 16 + g n) / 16 ^ (n + 1 - 1 - i) % 16 = g i
    by_cases q : i = n
    · subst q
      rw [show i + 1 - 1 - i = 0 by omega, Nat.pow_zero, Nat.div_one]
      have := hb i
      omega
    · rw [show n + 1 - 1 - i = (n - 1 - i) + 1 by omega, Nat.pow_succ, Nat.mul_comm (16 ^ (n - 1 - i)) 16, ← Nat.div_div_eq_div_mul, show (cdN g n * 16 + g n) / 16 = cdN g n by have := hb n; omega]
      exact ih (by omega)
theorem cd_lt (hb : ∀ j, g j < 16) : ∀ n, cdN g n < 16 ^ n
  | 0 => by show 0 < 1; decide
  | n + 1 => by
    have := cd_lt hb n
    have := hb n
    show cdN g n * 16 + g n < 16 ^ (n + 1)
    rw [Nat.pow_succ]
    omega
theorem cd_lx (hb : ∀ j, g j < 16) (hh : ∀ j, h j < 16) (hi : i < n) (e : ∀ j, j < i → g j = h j) (q : g i < h i) : cdN g n < cdN h n := by
  induction n with
  | zero => omega
  | succ n ih =>
    show cdN g n * 16 + g n < cdN h n * 16 + h n
    have b1 := hb n
    have b2 := hh n
    by_cases w : i = n
    · subst w
      rw [cd_x e]
      omega
    · have := ih (by omega)
      omega
/-- a 1 at one place alone -/
theorem cd_1 : ∀ {n : Nat}, i < n → cdN (fun j => if j = i then 1 else 0) n = 16 ^ (n - 1 - i)
  | 0, h => absurd h (Nat.not_lt_zero _)
  | n + 1, hi => by
    show cdN (fun j => if j = i then 1 else 0) n * 16 + (if n = i then 1 else 0) = _
    by_cases q : n = i
    · rw [if_pos q, cd_x (h := fun _ => 0) (fun j hj => if_neg (by omega)), show n + 1 - 1 - i = 0 by omega]
      have z : ∀ n, cdN (fun _ => 0) n = 0 := fun n => by
        induction n with
        | zero => rfl
        | succ n ih => show cdN (fun _ => 0) n * 16 + 0 = 0; rw [ih]
      rw [z]
      try rfl
    · rw [if_neg q, cd_1 (by omega), show n + 1 - 1 - i = (n - 1 - i) + 1 by omega, Nat.pow_succ]
      try rfl
end
/-! members in phases -/
section
variable {mt lt : Nat → Nat → Bool} {n m k i u v D P : Nat} {f g r : Nat → Nat}
/-- a row of phases keeps to what is known -/
def phO (mt lt : Nat → Nat → Bool) (n m : Nat) (f : Nat → Nat) : Prop := (∀ i, i < n → f i < m) ∧ ∀ i j, i < n → j < n → i ≠ j → (mt i j = true → f i ≠ f j) ∧ (lt i j = true → f j < f i)
def clsB (mt lt : Nat → Nat → Bool) (f : Nat → Nat) (i v j : Nat) : Bool := (mt i j && decide (f j = v)) || ((lt i j && decide (v ≤ f j)) || (lt j i && decide (f j ≤ v)))
def upN (f : Nat → Nat) (i v : Nat) : Nat → Nat := fun j => if j = i then v else f j
/-- the reference's rows in its order -/
def nbL (mt lt : Nat → Nat → Bool) (m : Nat) : Nat → Nat → (Nat → Nat) → List (Nat → Nat)
  | 0, _, f => [f]
  | u + 1, i, f => (List.range m).flatMap fun v => if anyB (clsB mt lt f i v) i = true then [] else nbL mt lt m u (i + 1) (upN f i v)
def nbV (mt lt : Nat → Nat → Bool) (m u i : Nat) (f : Nat → Nat) (v : Nat) : List (Nat → Nat) := (List.range v).flatMap fun v => if anyB (clsB mt lt f i v) i = true then [] else nbL mt lt m u (i + 1) (upN f i v)
theorem nbV_0 : nbV mt lt m u i f 0 = [] := rfl
theorem nbV_s : nbV mt lt m u i f (v + 1) = nbV mt lt m u i f v ++ (if anyB (clsB mt lt f i v) i = true then [] else nbL mt lt m u (i + 1) (upN f i v)) := by
  unfold nbV
  rw [List.range_succ, List.flatMap_append, List.flatMap_cons, List.flatMap_nil, List.append_nil]
theorem clsB_x (e : ∀ j, j < i → f j = g j) : anyB (clsB mt lt f i v) i = anyB (clsB mt lt g i v) i := by
  have : ∀ n, n ≤ i → anyB (clsB mt lt f i v) n = anyB (clsB mt lt g i v) n := by
    intro n
    induction n with
    | zero => intro _; rfl
    | succ n ih =>
      intro hn
      show (anyB (clsB mt lt f i v) n || clsB mt lt f i v n) = (anyB (clsB mt lt g i v) n || clsB mt lt g i v n)
      rw [ih (by omega)]
      unfold clsB
      rw [e n (by omega)]
  exact this i (Nat.le_refl _)
theorem nb_mem : ∀ (u i : Nat) (f : Nat → Nat), i + u = n → ∀ g, g ∈ nbL mt lt m u i f ↔ (∀ j, (j < i ∨ n ≤ j) → g j = f j) ∧ ∀ j, i ≤ j → j < n → g j < m ∧ anyB (clsB mt lt g j (g j)) j = false
  | 0, i, f, hu, g => by
    show g ∈ [f] ↔ _
    rw [List.mem_singleton]
    constructor
    · rintro rfl
      exact ⟨fun _ _ => rfl, fun j h1 h2 => by omega⟩
    · rintro ⟨h1, _⟩
      funext j
      exact h1 j (by omega)
  | u + 1, i, f, hu, g => by
    show g ∈ (List.range m).flatMap _ ↔ _
    rw [List.mem_flatMap]
    constructor
    · rintro ⟨v, hv, hg⟩
      by_cases q : anyB (clsB mt lt f i v) i = true
      · rw [if_pos q] at hg; exact absurd hg List.not_mem_nil
      · rw [if_neg q] at hg
        obtain ⟨a, b⟩ := (nb_mem u (i + 1) (upN f i v) (by omega) g).mp hg
        have gi : g i = v := by rw [a i (by omega)]; exact if_pos rfl
        have gl : ∀ j, (j < i ∨ n ≤ j) → g j = f j := fun j hj => by
          rw [a j (by omega)]; exact if_neg (by omega)
        refine ⟨gl, fun j h1 h2 => ?_⟩
        by_cases w : j = i
        · subst w
          rw [gi]
          refine ⟨List.mem_range.mp hv, ?_⟩
          rw [clsB_x (g := f) (fun j' hj' => gl j' (by omega))]
          exact Bool.eq_false_iff.mpr q
        · exact b j (by omega) h2
    · rintro ⟨a, b⟩
      have bi := b i (Nat.le_refl _) (by omega)
      refine ⟨g i, List.mem_range.mpr bi.1, ?_⟩
      rw [← clsB_x (f := g) (fun j hj => a j (by omega)), bi.2, if_neg (by decide)]
      refine (nb_mem u (i + 1) (upN f i (g i)) (by omega) g).mpr ⟨fun j hj => ?_, fun j h1 h2 => b j (by omega) h2⟩
      unfold upN
      by_cases w : j = i
      · rw [if_pos w, w]
      · rw [if_neg w]; exact a j (by omega)
theorem nd_fm {α β : Type} {F : α → List β} : ∀ {l : List α}, l.Nodup → (∀ a, a ∈ l → (F a).Nodup) → (∀ a b x, a ∈ l → b ∈ l → x ∈ F a → x ∈ F b → a = b) → (l.flatMap F).Nodup
  | [], _, _, _ => List.nodup_nil
  | a :: t, hn, h1, h2 => by
    have hn' := List.nodup_cons.mp hn
    rw [List.flatMap_cons, List.nodup_append]
    refine ⟨h1 a List.mem_cons_self, nd_fm hn'.2 (fun b hb => h1 b (List.mem_cons_of_mem _ hb)) (fun b c x hb hc => h2 b c x (List.mem_cons_of_mem _ hb) (List.mem_cons_of_mem _ hc)), fun x hx y hy e => ?_⟩
    subst e
    obtain ⟨b, hb, hxb⟩ := List.mem_flatMap.mp hy
    exact hn'.1 (h2 a b x List.mem_cons_self (List.mem_cons_of_mem _ hb) hx hxb ▸ hb)
theorem nb_nd : ∀ (u i : Nat) (f : Nat → Nat), i + u = n → (nbL mt lt m u i f).Nodup
  | 0, i, f, _ => by show [f].Nodup; rw [List.nodup_cons]; exact ⟨List.not_mem_nil, List.nodup_nil⟩
  | u + 1, i, f, hu => by
    refine nd_fm List.nodup_range (fun v _ => ?_) (fun v w x _ _ hv hw => ?_)
    · split
      · exact List.nodup_nil
      · exact nb_nd u (i + 1) _ (by omega)
    · have key : ∀ v, x ∈ (if anyB (clsB mt lt f i v) i = true then [] else nbL mt lt m u (i + 1) (upN f i v)) → x i = v := fun v hv => by
        split at hv
        · exact absurd hv List.not_mem_nil
        · rw [((nb_mem (n := n) u (i + 1) _ (by omega) x).mp hv).1 i (by omega)]; exact if_pos rfl
      rw [← key v hv, key w hw]
/-- the first row comes first -/
def lexL (f g : Nat → Nat) : Prop := f = g ∨ ∃ i, (∀ j, j < i → f j = g j) ∧ f i < g i
theorem nb_fst : ∀ (u i : Nat) (f : Nat → Nat), i + u = n → ∀ g t, nbL mt lt m u i f = g :: t → ∀ h, h ∈ nbL mt lt m u i f → g = h ∨ ∃ a, a < n ∧ (∀ j, j < a → g j = h j) ∧ g a < h a
  | 0, i, f, hu, g, t, e, h, hh => by
    have e' : [f] = g :: t := e
    have hh' : h ∈ [f] := hh
    rw [List.mem_singleton] at hh'
    injection e' with e1 e2
    exact Or.inl (by rw [← e1, hh'])
  | u + 1, i, f, hu, g, t, e, h, hh => by
    have key : ∀ v l, nbV mt lt m u i f v = g :: l → ∀ h, h ∈ nbV mt lt m u i f v → g = h ∨ ∃ a, a < n ∧ (∀ j, j < a → g j = h j) ∧ g a < h a := by
      intro v
      induction v with
      | zero => intro l e; cases e
      | succ v ih =>
        intro l e h hh
        rw [nbV_s] at e hh
        cases z : nbV mt lt m u i f v with
        | nil =>
          rw [z, List.nil_append] at e hh
          split at e
          · cases e
          · next q =>
            rw [if_neg q] at hh
            exact nb_fst u (i + 1) _ (by omega) g l e h hh
        | cons a s =>
          rw [z, List.cons_append] at e
          injection e with e1 e2
          subst e1
          rw [List.mem_append] at hh
          rcases hh with hh | hh
          · exact ih s z h hh
          · have ha : a ∈ nbV mt lt m u i f v := by rw [z]; exact List.mem_cons_self
            unfold nbV at ha
            obtain ⟨w, hw, haw⟩ := List.mem_flatMap.mp ha
            have kk : ∀ v x, x ∈ (if anyB (clsB mt lt f i v) i = true then [] else nbL mt lt m u (i + 1) (upN f i v)) → ∀ j, j < i + 1 → x j = upN f i v j := fun v x hv j hj => by
              split at hv
              · exact absurd hv List.not_mem_nil
              · exact ((nb_mem (n := n) u (i + 1) _ (by omega) x).mp hv).1 j (Or.inl hj)
            have b1 := kk w a haw
            have b2 := kk v h hh
            refine Or.inr ⟨i, by omega, fun j hj => ?_, ?_⟩
            · rw [b1 j (by omega), b2 j (by omega)]; unfold upN; rw [if_neg (by omega), if_neg (by omega)]
            · rw [b1 i (by omega), b2 i (by omega)]; unfold upN; rw [if_pos rfl, if_pos rfl]; exact List.mem_range.mp hw
    exact key m t e h hh
/-- the reference's rows are those that keep to what is known -/
theorem nb_ok (hs : ∀ i j, mt i j = mt j i) : g ∈ nbL mt lt m n 0 (fun _ => 0) ↔ phO mt lt n m g ∧ ∀ j, n ≤ j → g j = 0 := by
  rw [nb_mem (n := n) n 0 _ (by omega)]
  have cl : ∀ i j, clsB mt lt g i (g i) j = false ↔ (mt i j = true → g i ≠ g j) ∧ (lt i j = true → g j < g i) ∧ (lt j i = true → g i < g j) := fun i j => by
    unfold clsB
    cases mt i j <;> cases lt i j <;> cases lt j i <;> simp <;> try omega
  constructor
  · rintro ⟨a, b⟩
    refine ⟨⟨fun i hi => (b i (Nat.zero_le _) hi).1, fun i j hi hj hij => ?_⟩, fun j hj => a j (Or.inr hj)⟩
    rcases Nat.lt_or_ge j i with q | q
    · have := (cl i j).mp (anyB_f.mp (b i (Nat.zero_le _) hi).2 j q)
      exact ⟨this.1, this.2.1⟩
    · have := (cl j i).mp (anyB_f.mp (b j (Nat.zero_le _) hj).2 i (by omega))
      exact ⟨fun z e => this.1 (by rw [hs]; exact z) e.symm, this.2.2⟩
  · rintro ⟨⟨a, b⟩, c⟩
    refine ⟨fun j hj => c j (by omega), fun j _ hj => ⟨a j hj, anyB_f.mpr fun i hi => (cl j i).mpr ?_⟩⟩
    have h1 := b j i hj (by omega) (by omega)
    have h2 := b i j (by omega) hj (by omega)
    exact ⟨h1.1, h1.2, h2.2⟩
/-! the class's rows: the phases left at each -/
def chn (mt lt : Nat → Nat → Bool) (n D k : Nat) (g : Nat → Nat) : Prop :=
  (∀ j, (n ≤ j ∨ D.testBit j = true) → g j = 0) ∧ (∀ j, j < n → D.testBit j = false → 1 ≤ g j ∧ g j ≤ k) ∧ (∀ v, 1 ≤ v → v ≤ k → ∃ j, j < n ∧ g j = v) ∧ ∀ i j, i < n → j < n → i ≠ j → D.testBit i = false → D.testBit j = false → (mt i j = true → g i ≠ g j) ∧ (lt i j = true → g i < g j)
/-- those of the phase that is next -/
def topS (n k : Nat) (g : Nat → Nat) (P : Nat) : Prop := ∀ j, P.testBit j = true ↔ j < n ∧ g j = k
def vPt (mt lt : Nat → Nat → Bool) (n D P : Nat) : Prop := P ≠ 0 ∧ (∀ j, P.testBit j = true → j < n ∧ D.testBit j = false ∧ ∀ i, i < n → i ≠ j → lt j i = true → D.testBit i = true) ∧ ∀ i j, i ≠ j → P.testBit i = true → P.testBit j = true → mt i j = false ∧ lt i j = false
def extN (P k : Nat) (r : Nat → Nat) : Nat → Nat := fun j => if P.testBit j = true then k else r j
theorem top_ex : ∀ n, ∃ P, P < 2 ^ n ∧ topS n k g P
  | 0 => ⟨0, by decide, fun j => by rw [Nat.zero_testBit]; exact ⟨fun z => Bool.noConfusion z, fun z => absurd z.1 (Nat.not_lt_zero _)⟩⟩
  | n + 1 => by
    obtain ⟨P, h1, h2⟩ := top_ex n
    by_cases q : g n = k
    · refine ⟨P ||| 2 ^ n, or_lt h1, fun j => ?_⟩
      rw [or_b, Bool.or_eq_true, h2 j, decide_eq_true_iff]
      constructor
      · rintro (⟨a, b⟩ | rfl)
        · exact ⟨by omega, b⟩
        · exact ⟨by omega, q⟩
      · rintro ⟨a, b⟩
        by_cases w : n = j
        · exact Or.inr w
        · exact Or.inl ⟨by omega, b⟩
    · refine ⟨P, Nat.lt_trans h1 (Nat.pow_lt_pow_right (by decide) (by omega)), fun j => ?_⟩
      rw [h2 j]
      constructor
      · rintro ⟨a, b⟩; exact ⟨by omega, b⟩
      · rintro ⟨a, b⟩
        refine ⟨?_, b⟩
        by_cases w : j = n
        · subst w; exact absurd b q
        · omega
theorem top_u {P Q : Nat} (h : topS n k g P) (h' : topS n k g Q) : P = Q := by
  apply Nat.eq_of_testBit_eq
  intro j
  have := (h j).trans (h' j).symm
  cases z : P.testBit j <;> cases w : Q.testBit j <;> simp_all
theorem tb_o {a b j : Nat} : (a ||| b).testBit j = true ↔ a.testBit j = true ∨ b.testBit j = true := by rw [Nat.testBit_or, Bool.or_eq_true]
theorem tb_of {a b j : Nat} : (a ||| b).testBit j = false ↔ a.testBit j = false ∧ b.testBit j = false := by rw [Nat.testBit_or, Bool.or_eq_false_iff]
/-- one phase more -/
theorem chn_s (hv : vPt mt lt n D P) (h : chn mt lt n (D ||| P) k r) : chn mt lt n D (k + 1) (extN P (k + 1) r) ∧ topS n (k + 1) (extN P (k + 1) r) P := by
  obtain ⟨h1, h2, h3, h4⟩ := h
  obtain ⟨v0, v1, v2⟩ := hv
  have ep : ∀ j, P.testBit j = true → extN P (k + 1) r j = k + 1 := fun j hj => if_pos hj
  have en : ∀ j, P.testBit j = false → extN P (k + 1) r j = r j := fun j hj => if_neg (by rw [hj]; decide)
  have rk : ∀ j, r j ≤ k := fun j => by
    by_cases a : n ≤ j ∨ (D ||| P).testBit j = true
    · rw [h1 j a]; omega
    · exact (h2 j (by omega) (Bool.eq_false_iff.mpr fun z => a (Or.inr z))).2
  refine ⟨⟨fun j hj => ?_, fun j hj hd => ?_, fun v a b => ?_, fun i j hi hj hij di dj => ?_⟩, fun j => ?_⟩
  · rw [en j (Bool.eq_false_iff.mpr fun z => ?_)]
    · exact h1 j (hj.elim Or.inl fun z => Or.inr (tb_o.mpr (Or.inl z)))
    · have := v1 j z
      rcases hj with q | q
      · omega
      · rw [this.2.1] at q; cases q
  · cases z : P.testBit j with
    | true => rw [ep j z]; omega
    | false =>
      rw [en j z]
      have := h2 j hj (tb_of.mpr ⟨hd, z⟩)
      omega
  · by_cases q : v = k + 1
    · have : ∃ j, P.testBit j = true := by
        apply Classical.byContradiction
        intro z
        apply v0
        apply Nat.eq_of_testBit_eq
        intro j
        rw [Nat.zero_testBit]
        exact Bool.eq_false_iff.mpr fun y => z ⟨j, y⟩
      obtain ⟨j, hj⟩ := this
      exact ⟨j, (v1 j hj).1, by rw [ep j hj, q]⟩
    · obtain ⟨j, j1, j2⟩ := h3 v a (by omega)
      refine ⟨j, j1, ?_⟩
      rw [en j (Bool.eq_false_iff.mpr fun z => ?_)]
      · exact j2
      · rw [h1 j (Or.inr (tb_o.mpr (Or.inr z)))] at j2; omega
  · cases zi : P.testBit i with
    | true =>
      cases zj : P.testBit j with
      | true =>
        have := v2 i j hij zi zj
        rw [this.1, this.2]
        exact ⟨fun z => Bool.noConfusion z, fun z => Bool.noConfusion z⟩
      | false =>
        rw [ep i zi, en j zj]
        refine ⟨fun _ => by have := rk j; omega, fun z => ?_⟩
        have := (v1 i zi).2.2 j hj (fun e => hij e.symm) z
        rw [this] at dj; cases dj
    | false =>
      cases zj : P.testBit j with
      | true =>
        rw [en i zi, ep j zj]
        have := rk i
        exact ⟨fun _ => by omega, fun _ => by omega⟩
      | false =>
        rw [en i zi, en j zj]
        exact h4 i j hi hj hij (tb_of.mpr ⟨di, zi⟩) (tb_of.mpr ⟨dj, zj⟩)
  · constructor
    · intro z; exact ⟨(v1 j z).1, ep j z⟩
    · rintro ⟨a, b⟩
      apply Classical.byContradiction
      intro z
      rw [en j (Bool.eq_false_iff.mpr z)] at b
      have := rk j
      omega
/-- and back -/
theorem chn_b (h : chn mt lt n D (k + 1) g) (ht : topS n (k + 1) g P) : vPt mt lt n D P ∧ ∃ r, chn mt lt n (D ||| P) k r ∧ g = extN P (k + 1) r := by
  obtain ⟨h1, h2, h3, h4⟩ := h
  have pd : ∀ j, P.testBit j = true → j < n ∧ g j = k + 1 ∧ D.testBit j = false := fun j hj => by
    have := (ht j).mp hj
    refine ⟨this.1, this.2, Bool.eq_false_iff.mpr fun z => ?_⟩
    rw [h1 j (Or.inr z)] at this
    omega
  refine ⟨⟨fun z => ?_, fun j hj => ?_, fun i j hij hi hj => ?_⟩, fun j => if P.testBit j = true then 0 else g j, ⟨fun j hj => ?_, fun j hj hd => ?_, fun v a b => ?_, fun i j hi hj hij di dj => ?_⟩, ?_⟩
  · obtain ⟨j, j1, j2⟩ := h3 (k + 1) (by omega) (Nat.le_refl _)
    have := (ht j).mpr ⟨j1, j2⟩
    rw [z, Nat.zero_testBit] at this
    cases this
  · obtain ⟨a, b, c⟩ := pd j hj
    refine ⟨a, c, fun i hi hij hl => ?_⟩
    cases z : D.testBit i with
    | true => rfl
    | false =>
      have := (h4 j i a hi (fun e => hij e.symm) c z).2 hl
      have := (h2 i hi z).2
      omega
  · obtain ⟨a, b, c⟩ := pd i hi
    obtain ⟨a', b', c'⟩ := pd j hj
    have := h4 i j a a' hij c c'
    refine ⟨Bool.eq_false_iff.mpr fun z => this.1 z (by omega), Bool.eq_false_iff.mpr fun z => ?_⟩
    have := this.2 z
    omega
  · show (if P.testBit j = true then 0 else g j) = 0
    by_cases q : P.testBit j = true
    · rw [if_pos q]
    · rw [if_neg q]
      exact h1 j (hj.elim Or.inl fun z => Or.inr ((tb_o.mp z).elim id fun y => absurd y q))
  · have q := tb_of.mp hd
    show 1 ≤ (if P.testBit j = true then 0 else g j) ∧ (if P.testBit j = true then 0 else g j) ≤ k
    rw [if_neg (by rw [q.2]; decide)]
    have a := h2 j hj q.1
    have : g j ≠ k + 1 := fun e => by
      have := (ht j).mpr ⟨hj, e⟩
      rw [q.2] at this; cases this
    omega
  · obtain ⟨j, j1, j2⟩ := h3 v a (by omega)
    refine ⟨j, j1, ?_⟩
    show (if P.testBit j = true then 0 else g j) = v
    rw [if_neg]
    · exact j2
    · intro z
      have := (pd j z).2.1
      omega
  · have qi := tb_of.mp di
    have qj := tb_of.mp dj
    show (mt i j = true → (if P.testBit i = true then 0 else g i) ≠ (if P.testBit j = true then 0 else g j)) ∧ (lt i j = true → (if P.testBit i = true then 0 else g i) < (if P.testBit j = true then 0 else g j))
    rw [if_neg (by rw [qi.2]; decide), if_neg (by rw [qj.2]; decide)]
    exact h4 i j hi hj hij qi.1 qj.1
  · funext j
    unfold extN
    by_cases q : P.testBit j = true
    · rw [if_pos q]; exact (pd j q).2.1
    · rw [if_neg q]; exact (if_neg q).symm
end
