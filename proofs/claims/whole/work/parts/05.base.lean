/-! values, cells, contexts: a small logic over W whose states are numbers -/
abbrev AV : Type := Int ⊕ (Int ⊕ Option Nat)
abbrev vi (x : Int) : AV := Sum.inl x
abbrev vj (x : Int) : AV := Sum.inr (Sum.inl x)
abbrev vq (r : Option Nat) : AV := Sum.inr (Sum.inr r)
abbrev vr (a : Nat) : AV := Sum.inr (Sum.inr (some a))
abbrev vn : AV := Sum.inr (Sum.inr none)
abbrev VV : Type := Nat → Nat → Int
abbrev RR : Type := Nat → Nat → Option Nat
abbrev GG : Type := Nat × Launch × va_G × (Nat → ClassId) × (Nat → Nat) × Nat × (Nat → Int32)
def gB (G : GG) : Nat := G.1
def gL (G : GG) : Launch := G.2.1
def gD (G : GG) : va_G := G.2.2.1
def gY (G : GG) : Nat → ClassId := G.2.2.2.1
def gS (G : GG) : Nat → Nat := G.2.2.2.2.1
def gN (G : GG) : Nat := G.2.2.2.2.2.1
def gX (G : GG) : Nat → Int32 := G.2.2.2.2.2.2
def ad (G : GG) (a : Nat) : Nat := if a < 1000 then gB G + a else gS G (a - 1000)
def cv (G : GG) : AV → Value
  | .inl x => .int (Int32.ofInt x)
  | .inr (.inl x) => .long (Int64.ofInt x)
  | .inr (.inr none) => .null
  | .inr (.inr (some a)) => .ref (ad G a)
def cl2 (G : GG) (q : Nat × AV) : Nat × Value := (q.1, cv G q.2)
def lay (k : Nat) : Nat × Nat := layL.getD k (9, 0)
def ftc (ci i : Nat) : Nat := (ftL.getD ci []).getD i 0
def nfc (ci : Nat) : Nat := (ftL.getD ci []).length
def sz1 (q : Nat × Nat) : Nat := if q.1 = 0 then nfc q.2 else q.2
def sl : Nat → Nat
  | 0 => 0
  | k + 1 => sl k + sz1 (lay k)
def fv (G : GG) (V : VV) (R : RR) (k ci i : Nat) : Value := match ftc ci i with
  | 1 => .long (Int64.ofInt (V k i))
  | 2 => va_rf ((R k i).map (ad G))
  | _ => .int (Int32.ofInt (V k i))
def ce (G : GG) (V : VV) (R : RR) (k : Nat) : va_E := match lay k with
  | (0, ci) => .inr (ci, (List.range (nfc ci)).map (fv G V R k ci))
  | (1, n) => .inl (gY G 1, n, .inl (fun i => Int32.ofInt (V k i)))
  | (2, n) => .inl (gY G 2, n, .inr (.inl (fun i => Int64.ofInt (V k i))))
  | (3, n) => .inl (gY G 3, n, .inl (fun i => Int32.ofInt (V k i)))
  | (4, n) => .inl (gY G 4, n, .inl (fun i => Int32.ofInt (V k i)))
  | (5, n) => .inl (gY G 5, n, .inr (.inr (.inr (.inr (fun i => (R k i).map (ad G))))))
  | (6, n) => .inl (gY G 6, n, .inr (.inr (.inr (.inr (fun i => (R k i).map (ad G))))))
  | _ => .inr (0, [])
def wl (G : GG) (nx : Nat) (V : VV) (R : RR) : va_W := (List.range nx).map (fun k => (gB G + k, ce G V R k))
def aA (G : GG) : Nat → Prop := fun q => gB G ≤ q
def tysG (G : GG) : List (ClassId × FieldType) := [(gY G 1, .int), (gY G 2, .long), (gY G 3, .boolean), (gY G 4, .byte), (gY G 5, .object "PostHouses$House"), (gY G 6, .array .int)]
def HW (G : GG) (nx : Nat) (V : VV) (R : RR) (H : Heap) : Prop := va_P (gD G) vwCl (wl G nx V R) H
theorem wl_get (G : GG) {nx k : Nat} (V : VV) (R : RR) (h : k < nx) : (wl G nx V R)[k]? = some (gB G + k, ce G V R k) := by
  simp [wl, h]
theorem wl_inv {G : GG} {nx k : Nat} {V : VV} {R : RR} {q : Nat × va_E} (h : (wl G nx V R)[k]? = some q) : k < nx ∧ q = (gB G + k, ce G V R k) := by
  have hk : k < nx := by
    have := (List.getElem?_eq_some_iff.mp h).1
    simpa [wl] using this
  rw [wl_get G V R hk] at h
  exact ⟨hk, (Option.some.inj h).symm⟩
theorem wl_D (G : GG) (nx : Nat) (V : VV) (R : RR) : va_D (aA G) (wl G nx V R) := by
  refine ⟨fun i j p q hi hj hpq => ?_, fun k q hk => ?_⟩
  · obtain ⟨-, rfl⟩ := wl_inv hi
    obtain ⟨-, rfl⟩ := wl_inv hj
    simpa using hpq
  · obtain ⟨-, rfl⟩ := wl_inv hk
    exact Nat.le_add_right _ _
/-- one cell of the world is another one -/
theorem wl_set {G : GG} {nx k : Nat} {V V' : VV} {R R' : RR} {e : va_E} (hk : k < nx) (he : ce G V' R' k = e) (ho : ∀ j, j ≠ k → ce G V' R' j = ce G V R j) : (wl G nx V R).set k (gB G + k, e) = wl G nx V' R' := by
  apply List.ext_getElem?
  intro j
  by_cases hj : j = k
  · subst hj
    rw [List.getElem?_set_self (by simpa [wl] using hk), wl_get G V' R' hk, he]
  · rw [List.getElem?_set_ne (Ne.symm hj)]
    by_cases hn : j < nx
    · rw [wl_get G V R hn, wl_get G V' R' hn, ho j hj]
    · have h1 : (wl G nx V R)[j]? = none := by simp [wl]; omega
      have h2 : (wl G nx V' R')[j]? = none := by simp [wl]; omega
      rw [h1, h2]
theorem wl_push {G : GG} {nx : Nat} {V : VV} {R : RR} {e : va_E} (he : ce G V R nx = e) : wl G nx V R ++ [(gB G + nx, e)] = wl G (nx + 1) V R := by
  simp [wl, List.range_succ, he]
/-- new values -/
def uV (V : VV) (a i : Nat) (x : Int) : VV := fun k j => if k = a ∧ j = i then x else V k j
def uR (R : RR) (a i : Nat) (x : Option Nat) : RR := fun k j => if k = a ∧ j = i then x else R k j
def cV (V : VV) (a : Nat) (f : Nat → Int) : VV := fun k j => if k = a then f j else V k j
def cR (R : RR) (a : Nat) (f : Nat → Option Nat) : RR := fun k j => if k = a then f j else R k j
theorem uV_self {V : VV} {a i : Nat} {x : Int} : uV V a i x a i = x := by simp [uV]
theorem uV_ne {V : VV} {a i k j : Nat} {x : Int} (h : ¬ (k = a ∧ j = i)) : uV V a i x k j = V k j := by simp [uV, h]
theorem uR_self {R : RR} {a i : Nat} {x : Option Nat} : uR R a i x a i = x := by simp [uR]
theorem uR_ne {R : RR} {a i k j : Nat} {x : Option Nat} (h : ¬ (k = a ∧ j = i)) : uR R a i x k j = R k j := by simp [uR, h]
/-- a cell depends on its own row alone -/
theorem ce_congr {G : GG} {V V' : VV} {R R' : RR} {k : Nat} (h1 : ∀ i, V' k i = V k i) (h2 : ∀ i, R' k i = R k i) : ce G V' R' k = ce G V R k := by
  have e1 : V' k = V k := funext h1
  have e2 : R' k = R k := funext h2
  unfold ce
  split <;> simp [fv, e1, e2]
theorem ce_uV {G : GG} {V : VV} {R : RR} {a i j : Nat} {x : Int} (h : j ≠ a) : ce G (uV V a i x) R j = ce G V R j := ce_congr (fun _ => uV_ne (fun q => h q.1)) (fun _ => rfl)
theorem ce_uR {G : GG} {V : VV} {R : RR} {a i j : Nat} {x : Option Nat} (h : j ≠ a) : ce G V (uR R a i x) j = ce G V R j := ce_congr (fun _ => rfl) (fun _ => uR_ne (fun q => h q.1))
theorem ce_cV {G : GG} {V : VV} {R : RR} {a j : Nat} {f : Nat → Int} (h : j ≠ a) : ce G (cV V a f) R j = ce G V R j := ce_congr (fun _ => by simp [cV, h]) (fun _ => rfl)
theorem ce_0 {G : GG} {V : VV} {R : RR} {k ci : Nat} (h : lay k = (0, ci)) : ce G V R k = .inr (ci, (List.range (nfc ci)).map (fv G V R k ci)) := by unfold ce; rw [h]; rfl
theorem ce_1 {G : GG} {V : VV} {R : RR} {k n : Nat} (h : lay k = (1, n)) : ce G V R k = .inl (gY G 1, n, .inl (fun i => Int32.ofInt (V k i))) := by unfold ce; rw [h]; rfl
theorem ce_2 {G : GG} {V : VV} {R : RR} {k n : Nat} (h : lay k = (2, n)) : ce G V R k = .inl (gY G 2, n, .inr (.inl (fun i => Int64.ofInt (V k i)))) := by unfold ce; rw [h]; rfl
theorem ce_3 {G : GG} {V : VV} {R : RR} {k n : Nat} (h : lay k = (3, n)) : ce G V R k = .inl (gY G 3, n, .inl (fun i => Int32.ofInt (V k i))) := by unfold ce; rw [h]; rfl
theorem ce_4 {G : GG} {V : VV} {R : RR} {k n : Nat} (h : lay k = (4, n)) : ce G V R k = .inl (gY G 4, n, .inl (fun i => Int32.ofInt (V k i))) := by unfold ce; rw [h]; rfl
theorem ce_5 {G : GG} {V : VV} {R : RR} {k n : Nat} (h : lay k = (5, n)) : ce G V R k = .inl (gY G 5, n, .inr (.inr (.inr (.inr (fun i => (R k i).map (ad G)))))) := by unfold ce; rw [h]; rfl
theorem ce_6 {G : GG} {V : VV} {R : RR} {k n : Nat} (h : lay k = (6, n)) : ce G V R k = .inl (gY G 6, n, .inr (.inr (.inr (.inr (fun i => (R k i).map (ad G)))))) := by unfold ce; rw [h]; rfl
theorem ad_lo {G : GG} {a : Nat} (h : a < 1000) : ad G a = gB G + a := if_pos h
theorem ad_hi (G : GG) (j : Nat) : ad G (1000 + j) = gS G j := by
  unfold ad
  rw [if_neg (by omega), Nat.add_sub_cancel_left]
theorem cv_q (G : GG) (r : Option Nat) : cv G (vq r) = va_rf (r.map (ad G)) := by cases r <;> rfl
/-- what lies below the world: constant arrays and texts, and what the tables say -/
def sLen (G : GG) (j : Nat) : Nat := if j = 0 then gN G else 10
def sCon (j : Nat) : List Int := match j with
  | 1 => [2, 2, 5, 5, 0, 0, 0, 0, 1, 1]
  | 2 => [4, 8, 100, 200, 9, 300, 300, 4, 500, 100]
  | 3 => [2, 2, 10, 20, 3, 0, 300, 0, 30, 10]
  | _ => [-1, 8, 40, 80, -1, 300, -1, -1, -1, -1]
def sVal (G : GG) (j : Nat) : Nat → Int32 := fun i => if j = 0 then gX G i else Int32.ofInt ((sCon j).getD i 0)
def sNam (j : Nat) : String := match j with
  | 1 => "LEAST"
  | 2 => "MOST"
  | 3 => "USUAL"
  | _ => "USUAL_TO"
def tIdx : List Nat := [68, 70, 72, 94, 96, 98, 100, 102, 104, 106, 108, 110, 112, 92, 77, 56]
def tTxt : List String := ["kind", "{", "}", "rows", "posts", "step", "apart", "slack", "deep", "pairs", "miss", "life", "worth", "to", ",", ";"]
def tLen : List Nat := [4, 1, 1, 4, 5, 4, 5, 5, 4, 5, 4, 4, 5, 2, 1, 1]
def tByt : List (List Int32) := [[107, 105, 110, 100], [123], [125], [114, 111, 119, 115], [112, 111, 115, 116, 115], [115, 116, 101, 112], [97, 112, 97, 114, 116], [115, 108, 97, 99, 107], [100, 101, 101, 112], [112, 97, 105, 114, 115], [109, 105, 115, 115], [108, 105, 102, 101], [119, 111, 114, 116, 104], [116, 111], [44], [59]]
abbrev fmN (v : Value) (A : Nat → Prop) (U : State) (H : Heap) : Prop := va_Z "jdk/internal/util/Preconditions" "SIOOBE_FORMATTER" "Ljava/util/function/BiFunction;" v A U H
def fmZ (G : GG) (U : State) (H : Heap) : Prop := fmN .null (aA G) U H ∨ fmN (.ref (gS G 50)) (aA G) U H
theorem fmZ.moved {G : GG} {u U : State} {H : Heap} (hvm : u.vm.Alike U.vm) (h : fmZ G u H) : fmZ G U H := h.elim (fun h => Or.inl (h.moved hvm)) (fun h => Or.inr (h.moved hvm))
theorem fmZ.kept {G : GG} {U : State} {H H1 : Heap} (h : fmZ G U H) (hq : ∀ a : Nat, a < H.size → ¬ aA G a → H1[a]? = H[a]?) : fmZ G U H1 := h.elim (fun h => Or.inl (h.kept hq)) (fun h => Or.inr (h.kept hq))
def aoA (U : State) : Prop := (Cond.arrayOver (.array .int)).before #[] U = true
def aoZ (U : State) : Prop := va_AO "PostHouses$House" U ∧ aoA U
theorem aoZ.moved {u U : State} (hvm : u.vm.Alike U.vm) (h : aoZ u) : aoZ U := ⟨h.1.moved hvm, over_moved hvm h.2⟩
/-- the script whole; of the class's constant rows the first ten places -/
def stX (G : GG) (U : State) (H : Heap) : Prop := (gS G 0 < gB G ∧ va_X (gS G 0) (gN G) (gX G) U H) ∧ ∀ j, 1 ≤ j → j < 5 → va_T .int (gS G j) 10 (fun i => .int (Int32.ofInt ((sCon j).getD i 0))) (aA G) U H
def EV (G : GG) (U : State) : Prop :=
  va_K (gD G) vwCl (tysG G) U ∧ (∀ w ∈ nestW, va_Nw w U) ∧ gB G ≤ U.heap.size ∧ stX G U U.heap ∧
  (∀ j, 1 ≤ j → j < 5 → va_Z "PostHouses$KindText" (sNam j) "[I" (.ref (gS G j)) (aA G) U U.heap) ∧
  vk_S 16 tLen tByt (fun i => gS G (10 + i)) (fun i => gS G (30 + i)) (aA G) U U.heap ∧ (∀ i, i < 16 → vk_R "PostHouses$KindText" (tIdx.getD i 0) (tTxt.getD i "") (gS G (10 + i)) U) ∧
  va_Z "java/lang/String" "COMPACT_STRINGS" "Z" (.int 1) (aA G) U U.heap ∧ fmZ G U U.heap ∧ aoZ U
