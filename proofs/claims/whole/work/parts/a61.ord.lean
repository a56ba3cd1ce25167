/-! the reference's order of members -/
def bW (b : Bk) : Prop := (∀ t, t < b.cn → b.cL t < (b.n : Int) ∧ b.cE t < (b.n : Int)) ∧ ∀ t, t < b.dn → b.dO t < (b.n : Int)
def mrI (c : Nat) (p : Nat → Nat → Bool) (n i j : Nat) (X : VV) : Prop := ∀ a b, a < n → b < n → (a < i ∨ (a = i ∧ b < j)) → X c (24 * a + b) = bi (p a b)
section
variable {c n i j : Nat} {p : Nat → Nat → Bool} {X Y : VV}
theorem mr_0 : mrI c p n 0 0 X := fun a b _ _ h => by omega
theorem mr_s {v : Int} (h : mrI c p n i j X) (e : Y = uV X c (24 * i + j) v) (hv : v = bi (p i j)) (hn : n ≤ 13) (hj : j < n) : mrI c p n i (j + 1) Y := by
  intro a b ha hb hab
  rw [e, uV_at]
  by_cases q : a = i ∧ b = j
  · rw [if_pos (by rw [q.1, q.2]), hv, q.1, q.2]
  · rw [if_neg (by omega)]
    exact h a b ha hb (by omega)
theorem mr_x (h : mrI c p n i j X) (e : Y c = X c) : mrI c p n i j Y := fun a b ha hb hab => by rw [e]; exact h a b ha hb hab
theorem mr_r (h : mrI c p n i n X) : mrI c p n (i + 1) 0 X := fun a b ha hb hab => h a b ha hb (by omega)
theorem mr_f (h : mrI c p n n 0 X) : ∀ a b, a < n → b < n → X c (24 * a + b) = bi (p a b) := fun a b ha hb => h a b ha hb (Or.inl ha)
end
/-- the list of houses as the reference keeps it -/
def lstV (N : Nat) (l : Nat → Nat → Int) (V : VV) : Prop := V 99 57 = (N : Int) ∧ ∀ i, i < N → ∀ f, f < 11 → V (135 + f) i = l i f
theorem lstV_of {b : Bk} {k : Int} {S : Sp} {Ks : Nat → Kd} {N : Nat} {l : Nat → Nat → Int} {V : VV} (h : lsM b k S Ks N l V) : lstV N l V := by
  obtain ⟨_, l', h1, h2, _⟩ := h
  refine ⟨h1.1, fun i hi f hf => ?_⟩
  have := h1.2 i hi f (by omega)
  unfold rowO at this
  rw [if_pos hf] at this
  rw [this, h2 i hi f hf]
def okV (A : List (Nat × Nat)) (F : List (Nat × Nat × Nat)) : Bool := ((List.range 11).all fun i => offC A F (135 + i)) && (!(inA A 99) && !(inF F 99 57))
theorem lstV_c {N : Nat} {l : Nat → Nat → Int} {V V' : VV} {A : List (Nat × Nat)} {F : List (Nat × Nat × Nat)} (h : lstV N l V) (f : chg A F V V') (ho : okV A F = true) : lstV N l V' := by
  unfold okV at ho
  rw [Bool.and_eq_true, List.all_eq_true] at ho
  refine ⟨(chg_j f ho.2).trans h.1, fun i hi g hg => ?_⟩
  rw [chg_k f (ho.1 g (List.mem_range.mpr hg))]
  exact h.2 i hi g hg
/-- its phases -/
def phM (mt lt : Nat → Nat → Bool) (n : Nat) (X : VV) : Prop := (X 99 86 = 0 ∧ ∀ m f, ¬ phO mt lt n m f) ∨ (X 99 86 = 1 ∧ ∃ m f0 t, (∀ m', m' < m → nbL mt lt m' n 0 (fun _ => 0) = []) ∧ nbL mt lt m n 0 (fun _ => 0) = f0 :: t ∧ X 99 84 = (m : Int) ∧ X 99 85 = ((min 1000 (nbL mt lt m n 0 (fun _ => 0)).length : Nat) : Int) ∧ ∀ j, j < n → X 155 j = (f0 j : Int))
theorem ph_low {mt lt : Nat → Nat → Bool} {n : Nat} : ∀ m f, phO mt lt n m f → ∃ m' f', m' ≤ n ∧ phO mt lt n m' f'
  | 0, f, h => ⟨0, f, Nat.zero_le _, h⟩
  | m + 1, f, h => by
    by_cases q : m + 1 ≤ n
    · exact ⟨m + 1, f, q, h⟩
    · have : ∃ v, v < m + 1 ∧ ∀ i, i < n → f i ≠ v := by
        apply Classical.byContradiction
        intro z
        have := pig (n := n) (m := m + 1) (f := f) fun v hv => by
          apply Classical.byContradiction
          intro y
          exact z ⟨v, hv, fun i hi e => y ⟨i, hi, e⟩⟩
        omega
      obtain ⟨v, v1, v2⟩ := this
      exact ph_low m _ (ph_gap h v1 v2)
theorem nb_has {mt lt : Nat → Nat → Bool} {n m : Nat} {f : Nat → Nat} (hs : ∀ i j, mt i j = mt j i) (h : phO mt lt n m f) : nbL mt lt m n 0 (fun _ => 0) ≠ [] := fun e => by
  have hf : phO mt lt n m (fun j => if j < n then f j else 0) := ⟨fun i hi => by show (if i < n then f i else 0) < m; rw [if_pos hi]; exact h.1 i hi, fun i j hi hj hij => by
    show (mt i j = true → (if i < n then f i else 0) ≠ if j < n then f j else 0) ∧ (lt i j = true → (if j < n then f j else 0) < if i < n then f i else 0)
    rw [if_pos hi, if_pos hj]; exact h.2 i j hi hj hij⟩
  have := (nb_ok hs).mpr ⟨hf, fun j hj => if_neg (by omega)⟩
  rw [e] at this
  exact List.not_mem_nil this
theorem rnd_no {mt lt : Nat → Nat → Bool} {n : Nat} (hl : ∀ i, lt i i = false) (h : anyB (fun i => warS lt n i i) n = true) : ∀ m f, ¬ phO mt lt n m f := fun m f hf => by
  obtain ⟨i, i1, i2⟩ := anyB_iff.mp h
  have := war_so hl hf n i i (Nat.le_refl _) i1 i1 i2
  omega
theorem rnd_ex {mt lt : Nat → Nat → Bool} {n : Nat} (h : ¬ anyB (fun i => warS lt n i i) n = true) : ∃ m f, m ≤ n ∧ phO mt lt n m f := by
  have h' : ∀ i, i < n → warS lt n i i = false := anyB_f.mp (Bool.eq_false_iff.mpr h)
  obtain ⟨m, f, hf⟩ := war_ex (mt := mt) h'
  exact ph_low m f hf
theorem nbl_0 {mt lt : Nat → Nat → Bool} {n : Nat} : (nbL mt lt 0 n 0 (fun _ => 0)).length = if n = 0 then 1 else 0 := by
  cases n with
  | zero => rfl
  | succ n => rfl
theorem st_0 {mt lt : Nat → Nat → Bool} {n : Nat} {V : VV} (h : V 99 85 = if n = 0 then 1 else 0) : stN n (nbL mt lt 0 n 0 (fun _ => 0)) V := by
  refine ⟨?_, fun g t e j hj => ?_⟩
  · rw [h, nbl_0]
    by_cases q : n = 0
    · rw [if_pos q, if_pos q]; rfl
    · rw [if_neg q, if_neg q]; rfl
  · have := nbl_0 (mt := mt) (lt := lt) (n := n)
    rw [e, if_neg (by omega)] at this
    cases this
theorem ct_f {b : Bk} {k : Int} {c t i j : Nat} {l : Nat → Nat → Int} (h : ¬ (b.cK t ≤ k ∧ ofB b k c l (b.cL t).toNat i = true ∧ ofB b k c l (b.cE t).toNat j = true)) : ctB b k c l i j t = false := by
  apply Bool.eq_false_iff.mpr
  intro z
  unfold ctB at z
  rw [Bool.and_eq_true, Bool.and_eq_true, decide_eq_true_iff] at z
  exact h z
theorem ct_t {b : Bk} {k : Int} {c t i j : Nat} {l : Nat → Nat → Int} (h : b.cK t ≤ k ∧ ofB b k c l (b.cL t).toNat i = true ∧ ofB b k c l (b.cE t).toNat j = true) : ctB b k c l i j t = true := by
  unfold ctB
  rw [Bool.and_eq_true, Bool.and_eq_true, decide_eq_true_iff]
  exact h
theorem of_i {b : Bk} {k : Int} {c g i : Nat} {l : Nat → Nat → Int} : ofB b k c l g i = true ↔ soO b k c g ≠ -1 ∧ (bL l i).testBit (soO b k c g).toNat = true := by
  unfold ofB
  rw [Bool.and_eq_true, decide_eq_true_iff]
theorem of_thr {b : Bk} {k : Int} {c g i : Nat} {l : Nat → Nat → Int} (h : ofB b k c l g i = true) : thr b k g := ow_thr (of_i.mp h).1
