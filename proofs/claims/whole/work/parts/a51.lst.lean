/-! lists without repeats, told by what is in them -/
theorem nd_len {α : Type} : ∀ {l k : List α}, l.Nodup → (∀ a, a ∈ l → a ∈ k) → l.length ≤ k.length
  | [], _, _, _ => Nat.zero_le _
  | a :: t, k, hn, hs => by
    obtain ⟨s, u, rfl⟩ := List.append_of_mem (hs a List.mem_cons_self)
    have hn' := List.nodup_cons.mp hn
    have := nd_len (l := t) (k := s ++ u) hn'.2 (fun b hb => by
      have h1 := hs b (List.mem_cons_of_mem _ hb)
      rw [List.mem_append, List.mem_cons] at h1
      rw [List.mem_append]
      rcases h1 with h1 | h1 | h1
      · exact Or.inl h1
      · exact absurd (h1 ▸ hb) hn'.1
      · exact Or.inr h1)
    rw [List.length_append] at this
    rw [List.length_append, List.length_cons, List.length_cons]
    omega
/-- so many (up to a thousand) are such -/
def hasN {α : Type} (Q : α → Prop) (w : Nat) : Prop := ∃ l : List α, l.Nodup ∧ (∀ g, g ∈ l ↔ Q g) ∧ w = min 1000 l.length
section
variable {α β : Type} {Q Q' : α → Prop} {w w' : Nat}
theorem hasN_u (h : hasN Q w) (h' : hasN Q w') : w = w' := by
  obtain ⟨l, l1, l2, l3⟩ := h
  obtain ⟨k, k1, k2, k3⟩ := h'
  have a := nd_len l1 (k := k) (fun g hg => (k2 g).mpr ((l2 g).mp hg))
  have b := nd_len k1 (k := l) (fun g hg => (l2 g).mpr ((k2 g).mp hg))
  rw [l3, k3, Nat.le_antisymm a b]
theorem hasN_i (h : hasN Q w) (e : ∀ g, Q' g ↔ Q g) : hasN Q' w := by
  obtain ⟨l, l1, l2, l3⟩ := h
  exact ⟨l, l1, fun g => (l2 g).trans (e g).symm, l3⟩
theorem hasN_0 (h : ∀ g, ¬ Q g) : hasN Q 0 := ⟨[], List.nodup_nil, fun g => ⟨fun z => absurd z List.not_mem_nil, fun z => absurd z (h g)⟩, rfl⟩
theorem hasN_p (h : hasN Q w) : 1 ≤ w ↔ ∃ g, Q g := by
  obtain ⟨l, l1, l2, l3⟩ := h
  cases l with
  | nil => rw [l3]; exact ⟨fun z => absurd z (by rw [List.length_nil]; decide), fun ⟨g, hg⟩ => absurd ((l2 g).mpr hg) List.not_mem_nil⟩
  | cons a t => rw [l3]; exact ⟨fun _ => ⟨a, (l2 a).mp List.mem_cons_self⟩, fun _ => by rw [List.length_cons]; omega⟩
theorem hasN_a (h : hasN Q w) (h' : hasN Q' w') (d : ∀ g, Q g → Q' g → False) : hasN (fun g => Q g ∨ Q' g) (min 1000 (w + w')) := by
  obtain ⟨l, l1, l2, l3⟩ := h
  obtain ⟨k, k1, k2, k3⟩ := h'
  refine ⟨l ++ k, ?_, fun g => ?_, ?_⟩
  · rw [List.nodup_append]
    exact ⟨l1, k1, fun a ha b hb e => d a ((l2 a).mp ha) ((k2 a).mp (e ▸ hb))⟩
  · rw [List.mem_append, l2, k2]
  · rw [List.length_append, l3, k3]; omega
theorem hasN_m (f : α → β) (h : hasN Q w) (inj : ∀ a b, Q a → Q b → f a = f b → a = b) : hasN (fun g => ∃ a, Q a ∧ g = f a) w := by
  obtain ⟨l, l1, l2, l3⟩ := h
  refine ⟨l.map f, ?_, fun g => ?_, by rw [List.length_map]; exact l3⟩
  · have : ∀ (l : List α), l.Nodup → (∀ a, a ∈ l → Q a) → (l.map f).Nodup := by
      intro l
      induction l with
      | nil => intro _ _; exact List.nodup_nil
      | cons a t ih =>
        intro hn hq
        have hn' := List.nodup_cons.mp hn
        rw [List.map_cons, List.nodup_cons]
        refine ⟨fun z => ?_, ih hn'.2 (fun b hb => hq b (List.mem_cons_of_mem _ hb))⟩
        obtain ⟨b, hb, e⟩ := List.mem_map.mp z
        have := inj b a (hq b (List.mem_cons_of_mem _ hb)) (hq a List.mem_cons_self) e
        exact hn'.1 (this ▸ hb)
    exact this l l1 (fun a ha => (l2 a).mp ha)
  · rw [List.mem_map]
    exact ⟨fun ⟨a, h1, h2⟩ => ⟨a, (l2 a).mp h1, h2.symm⟩, fun ⟨a, h1, h2⟩ => ⟨a, (l2 a).mpr h1, h2.symm⟩⟩
end
/-- a row onto m numbers has m places at least -/
theorem pig {n m : Nat} {f : Nat → Nat} (h : ∀ v, v < m → ∃ i, i < n ∧ f i = v) : m ≤ n := by
  have h1 := nd_len (l := List.range m) (k := (List.range n).map f) List.nodup_range (fun v hv => by
    obtain ⟨i, i1, i2⟩ := h v (List.mem_range.mp hv)
    exact List.mem_map.mpr ⟨i, List.mem_range.mpr i1, i2⟩)
  rw [List.length_range, List.length_map, List.length_range] at h1
  exact h1
/-! subsets of a set of bits, from above -/
def subB (a t : Nat) : Prop := ∀ i, t.testBit i = true → a.testBit i = true
theorem sub_and {a s : Nat} : subB a (s &&& a) := fun i h => by
  rw [Nat.testBit_and, Bool.and_eq_true] at h; exact h.2
theorem sub_h {a t : Nat} (h : subB a t) : subB (a / 2) (t / 2) := fun i hi => by
  rw [Nat.testBit_div_two] at hi ⊢; exact h (i + 1) hi
theorem sub_0 {a t : Nat} (h : subB a t) : t % 2 ≤ a % 2 := by
  have := h 0
  rw [Nat.testBit_zero, Nat.testBit_zero, decide_eq_true_iff, decide_eq_true_iff] at this
  omega
theorem and_h {a b : Nat} : (a &&& b) / 2 = a / 2 &&& b / 2 := Nat.and_div_two
theorem and_0 {a b : Nat} : (a &&& b) % 2 = (if a % 2 = 1 ∧ b % 2 = 1 then 1 else 0) := by
  rw [← Nat.and_one_is_mod, Nat.and_assoc]
  have h1 : a % 2 = 0 ∨ a % 2 = 1 := by omega
  have h2 : b % 2 = 0 ∨ b % 2 = 1 := by omega
  have e1 : (a &&& b) &&& 1 = (a &&& 1) &&& (b &&& 1) := by
    apply Nat.eq_of_testBit_eq
    intro i
    simp only [Nat.testBit_and]
    cases a.testBit i <;> cases b.testBit i <;> cases Nat.testBit 1 i <;> rfl
  rw [← Nat.and_assoc, e1, Nat.and_one_is_mod, Nat.and_one_is_mod]
  rcases h1 with h1 | h1 <;> rcases h2 with h2 | h2 <;> rw [h1, h2] <;> rfl
theorem sub_eq {a s : Nat} (h : subB a s) : s &&& a = s := by
  apply Nat.eq_of_testBit_eq
  intro i
  rw [Nat.testBit_and]
  cases z : s.testBit i with
  | false => rfl
  | true => rw [h i z]; rfl
/-- the next subset below is (s - 1) & a -/
theorem sub_nx : ∀ (s a t : Nat), subB a s → subB a t → t < s → t ≤ (s - 1) &&& a := by
  intro s
  induction s using Nat.strongRecOn with
  | _ s ih =>
    intro a t hs ht hlt
    have e1 : ((s - 1) &&& a) / 2 = (s - 1) / 2 &&& a / 2 := and_h
    have e2 := and_0 (a := s - 1) (b := a)
    have h0 := sub_0 ht
    have hs0 := sub_0 hs
    by_cases q : s % 2 = 1
    · have : (s - 1) / 2 = s / 2 := by omega
      rw [this, sub_eq (sub_h hs)] at e1
      omega
    · have a1 : (s - 1) / 2 = s / 2 - 1 := by omega
      have a2 := ih (s / 2) (by omega) (a / 2) (t / 2) (sub_h hs) (sub_h ht) (by omega)
      rw [a1] at e1
      have a3 : (s - 1) % 2 = 1 := by omega
      rw [a3] at e2
      have : a % 2 = 0 ∨ a % 2 = 1 := by omega
      rcases this with h | h
      · rw [h] at e2 h0; rw [if_neg (by omega)] at e2; omega
      · rw [h, if_pos ⟨rfl, rfl⟩] at e2; omega
theorem sub_lt {a s : Nat} (h : 0 < s) : (s - 1) &&& a < s := Nat.lt_of_le_of_lt Nat.and_le_left (by omega)
