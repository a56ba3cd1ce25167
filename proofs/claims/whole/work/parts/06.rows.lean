/-! the judgement TT over W, and a row an instruction -/
theorem EV.moved {G : GG} {s U : State} (h : EV G s) (hW : s.WarmedH U.vm) (hq : ∀ q : Nat, q < gB G → U.heap[q]? = s.heap[q]?) (hz : gB G ≤ U.heap.size) : EV G U := by
  obtain ⟨h1, h2, h3, h4, h5, h6, h7, h8, h9, h10⟩ := h
  have hal := hW.alike
  have hk : ∀ a : Nat, a < s.heap.size → ¬ aA G a → U.heap[a]? = s.heap[a]? := fun a _ ha => hq a (Nat.not_le.mp ha)
  refine ⟨h1.moved hal, fun w hw => ?_, hz, ⟨⟨h4.1.1, (h4.1.2.kept (hq _ h4.1.1)).moved hal⟩, fun j ha hb => ((h4.2 j ha hb).kept hk).moved hal⟩, fun j ha hb => ((h5 j ha hb).kept hk).moved hal, (h6.kept hk).moved hal, fun i hi => (h7 i hi).warm hW, (h8.kept hk).moved hal, fmZ.moved hal (h9.kept hk), h10.moved hal⟩
  have h0 := h2 w hw
  simp only [nestW, List.mem_cons, List.not_mem_nil, or_false] at hw
  rcases hw with rfl | rfl | rfl | rfl | rfl | rfl | rfl | rfl | rfl | rfl | rfl | rfl | rfl | rfl <;> exact va_Nw.warmM hW h0
abbrev Mth : Type := MethodName × ByteArray × Nat × Option FieldType × String
def Cx (G : GG) (M : Mth) (n0 : Nat) (p : Program) (s : State) (m : MethodId) (meth : Method) (c : Code) (args : Array Value) : Prop :=
  p.tables.exec = Jvm.exec ∧ c.code = M.2.1 ∧ meth.sig.returnType = M.2.2.2.1 ∧ c.maxLocals = M.2.2.1 ∧ s.vm.findClass M.2.2.2.2 = some m.cls ∧ (∀ w ∈ WL, w.before args s = true) ∧ meth.locks = false ∧ (M.1.name = "<init>" → meth.name = "<init>") ∧ EV G s ∧ s.heap.size = gB G + n0
def TT (G : GG) (M : Mth) (Rm : Room) (n0 : Nat) (Z : List Frame → Array Value → State → State → Prop) (nx pc : Nat) (ls : List (Nat × AV)) (st : List AV) (V : VV) (R : RR) : Prop :=
  ∀ (p : Program) (e : Env) (s : State) (m : MethodId) (args : Array Value) (below : List Frame) (meth : Method) (c : Code) (H : Heap) (locs : List Loc) (lr : Array Slot),
    Cx G M n0 p s m meth c args → HW G nx V R H → va_S (aA G) s.heap H locs → lv_has lr M.2.2.1 (ls.map (cl2 G)) →
    W p (gL G) e Rm s m args below meth c H locs (nx - n0) (sl nx - sl n0) (Z below args s) (F0 m pc lr (st.map (cv G)))
/-- what a method answers and leaves -/
def Qc (G : GG) (n1 : Nat) (Q : Option AV → VV → RR → Prop) : Array Value → State → Outcome → State → Prop := fun _ st o t =>
  ∃ (r : Option AV) (V : VV) (R : RR), o = .returned (r.map (cv G)) ∧ Q r V R ∧ HW G n1 V R t.heap ∧ st.heap.size ≤ t.heap.size ∧ ∀ q : Nat, q < gB G → t.heap[q]? = st.heap[q]?
def Zm (G : GG) (n0 n1 : Nat) (Q : Option AV → VV → RR → Prop) : List Frame → Array Value → State → State → Prop := fun below args s => MQ below (Qc G n1 Q) args s (n1 - n0) (sl n1 - sl n0) (aA G)
def rmd (d n0 n1 : Nat) : Room := { frames := d + 8, cells := n1 - n0, slots := sl n1 - sl n0, locals := 60 * (d + 8) }
def Pc (G : GG) (n : Nat) (as : List AV) (V : VV) (R : RR) : Array Value → State → Prop := fun a U => a = (as.map (cv G)).toArray ∧ HW G n V R U.heap ∧ EV G U ∧ U.heap.size = gB G + n
def Runs (G : GG) (M : Mth) (d n0 n1 : Nat) (as : List AV) (V : VV) (R : RR) (Q : Option AV → VV → RR → Prop) : Prop :=
  Met (gL G) M.1 (Cond.code M.1 M.2.1 M.2.2.1 M.2.2.2.1 :: WL) (rmd d n0 n1) (Pc G n0 as V R) (Qc G n1 Q) (n1 - n0) (sl n1 - sl n0) (aA G)
/-- the locals at a method's entry -/
def isJ : AV → Bool
  | .inr (.inl _) => true
  | _ => false
theorem cv_cat (G : GG) (v : AV) : (cv G v).category = if isJ v then 2 else 1 := by
  rcases v with x | x | (_ | a) <;> rfl
def entL : Nat → List AV → List (Nat × AV)
  | _, [] => []
  | n, v :: vs => (n, v) :: entL (if isJ v then n + 2 else n + 1) vs
def wds : List AV → Nat
  | [] => 0
  | v :: vs => (if isJ v then 2 else 1) + wds vs
theorem entL_map (G : GG) : ∀ (vs : List AV) (n : Nat), (entL n vs).map (cl2 G) = lv_args n (vs.map (cv G))
  | [], _ => rfl
  | v :: vs, n => by
    have h := cv_cat G v
    simp only [entL, List.map_cons, lv_args, cl2]
    cases hj : isJ v <;> simp [hj] at h <;> simp [h, entL_map G vs]
theorem wds_len (G : GG) : ∀ (vs : List AV), (lg_sl (vs.map (cv G))).length = wds vs
  | [] => rfl
  | v :: vs => by
    have h := cv_cat G v
    have ih := wds_len G vs
    unfold lg_sl at ih ⊢
    simp only [List.map_cons, List.flatMap_cons, List.length_append, ih, wds]
    cases hj : isJ v <;> simp [hj] at h <;> simp [h]
theorem wds_sum (G : GG) : ∀ (vs : List AV), ((vs.map (cv G)).map fun v => v.category).sum = wds vs
  | [] => rfl
  | v :: vs => by
    simp only [List.map_cons, List.sum_cons, wds_sum G vs, wds, cv_cat]
def keep1 (i : Nat) (q : Nat × AV) : Bool := !(q.1 == i) && !(q.1 + 1 == i && isJ q.2)
def keep2 (i : Nat) (q : Nat × AV) : Bool := !(q.1 == i) && (!(q.1 == i + 1) && !(q.1 + 1 == i && isJ q.2))
theorem cat_b (G : GG) (v : AV) : ((cv G v).category == 2) = isJ v := by
  rw [cv_cat]
  cases isJ v <;> rfl
theorem keep1_map (G : GG) (i : Nat) (ls : List (Nat × AV)) : (ls.map (cl2 G)).filter (fun q => !(q.1 == i) && !(q.1 + 1 == i && q.2.category == 2)) = (ls.filter (keep1 i)).map (cl2 G) := by
  rw [List.filter_map]
  congr 1
  apply List.filter_congr
  intro q _
  simp [Function.comp, cl2, keep1, cat_b]
theorem keep2_map (G : GG) (i : Nat) (ls : List (Nat × AV)) : (ls.map (cl2 G)).filter (fun q => !(q.1 == i) && (!(q.1 == i + 1) && !(q.1 + 1 == i && q.2.category == 2))) = (ls.filter (keep2 i)).map (cl2 G) := by
  rw [List.filter_map]
  congr 1
  apply List.filter_congr
  intro q _
  simp [Function.comp, cl2, keep2, cat_b]
/-! reading and storing locals -/
def lkp (i : Nat) : List (Nat × AV) → Option AV
  | [] => none
  | q :: t => match Nat.beq q.1 i with
    | true => some q.2
    | false => lkp i t
def insS (q : Nat × AV) : List (Nat × AV) → List (Nat × AV)
  | [] => [q]
  | r :: t => match Nat.ble q.1 r.1 with
    | true => q :: r :: t
    | false => r :: insS q t
theorem lkp_mem {i : Nat} {v : AV} : ∀ {ls : List (Nat × AV)}, lkp i ls = some v → (i, v) ∈ ls
  | [], h => by cases h
  | q :: t, h => by
    unfold lkp at h
    cases hb : Nat.beq q.1 i with
    | true =>
      rw [hb] at h
      have e1 : q.1 = i := Nat.eq_of_beq_eq_true hb
      have e2 : q.2 = v := Option.some.inj h
      rw [← e1, ← e2]
      exact List.mem_cons_self
    | false =>
      rw [hb] at h
      exact List.mem_cons_of_mem _ (lkp_mem h)
theorem insS_mem {q x : Nat × AV} : ∀ {ls : List (Nat × AV)}, x ∈ insS q ls → x = q ∨ x ∈ ls
  | [], h => by simpa [insS] using h
  | r :: t, h => by
    unfold insS at h
    cases hb : Nat.ble q.1 r.1 with
    | true => rw [hb] at h; simpa using h
    | false =>
      rw [hb] at h
      rcases List.mem_cons.mp h with h | h
      · exact Or.inr (h ▸ List.mem_cons_self)
      · rcases insS_mem h with h | h
        · exact Or.inl h
        · exact Or.inr (List.mem_cons_of_mem _ h)
theorem lkp_has {G : GG} {lr : Array Slot} {n i : Nat} {v : AV} {ls : List (Nat × AV)} (h : lv_has lr n (ls.map (cl2 G))) (hv : lkp i ls = some v) : lr[i]? = some (.val (cv G v)) := h.2.2 (cl2 G (i, v)) (List.mem_map_of_mem (lkp_mem hv))
theorem has_sub {G : GG} {lr : Array Slot} {n : Nat} {l l' : List (Nat × AV)} (h : lv_has lr n (l.map (cl2 G))) (hs : ∀ q ∈ l', q ∈ l) : lv_has lr n (l'.map (cl2 G)) := by
  refine ⟨h.1, h.2.1, fun q hq => ?_⟩
  obtain ⟨x, hx, rfl⟩ := List.mem_map.mp hq
  exact h.2.2 _ (List.mem_map_of_mem (hs x hx))
theorem has_ins {G : GG} {lr : Array Slot} {n i : Nat} {v : AV} {l : List (Nat × AV)} (h : lv_has lr n ((i, cv G v) :: l.map (cl2 G))) : lv_has lr n ((insS (i, v) l).map (cl2 G)) := by
  have h' : lv_has lr n (((i, v) :: l).map (cl2 G)) := h
  refine has_sub h' (fun q hq => ?_)
  rcases insS_mem hq with rfl | hq
  · exact List.mem_cons_self
  · exact List.mem_cons_of_mem _ hq
/-! what an instruction is -/
def dK (M : Mth) (pc : Nat) (n : Int) (pn : Nat) : Prop :=
  (decode M.2.1 pc = .ok (.iconst n, 1) ∧ pc + 1 = pn) ∨ (decode M.2.1 pc = .ok (.bipush n, 2) ∧ pc + 2 = pn ∧ (Int8.ofInt n).toInt32 = Int32.ofInt n) ∨ (decode M.2.1 pc = .ok (.sipush n, 3) ∧ pc + 3 = pn ∧ (Int16.ofInt n).toInt32 = Int32.ofInt n) ∨
  (∃ i, decode M.2.1 pc = .ok (.ldc i, 2) ∧ pc + 2 = pn ∧ Cond.constant M.2.2.2.2 i (Int32.ofInt n) ∈ WL) ∨ (∃ i, decode M.2.1 pc = .ok (.ldc_w i, 3) ∧ pc + 3 = pn ∧ Cond.constant M.2.2.2.2 i (Int32.ofInt n) ∈ WL)
def dJ (M : Mth) (pc : Nat) (n : Int) (pn : Nat) : Prop :=
  (∃ k : Fin 2, decode M.2.1 pc = .ok (.lconst k, 1) ∧ pc + 1 = pn ∧ Int64.ofNat (k : Nat) = Int64.ofInt n) ∨ (∃ i, decode M.2.1 pc = .ok (.ldc2_w i, 3) ∧ pc + 3 = pn ∧ Cond.constantLong M.2.2.2.2 i (Int64.ofInt n) ∈ WL)
def dIL (M : Mth) (pc i pn : Nat) : Prop := (∃ k : Fin 4, decode M.2.1 pc = .ok (.iload_n k, 1) ∧ (k : Nat) = i ∧ pc + 1 = pn) ∨ (decode M.2.1 pc = .ok (.iload i, 2) ∧ pc + 2 = pn)
def dLL (M : Mth) (pc i pn : Nat) : Prop := (∃ k : Fin 4, decode M.2.1 pc = .ok (.lload_n k, 1) ∧ (k : Nat) = i ∧ pc + 1 = pn) ∨ (decode M.2.1 pc = .ok (.lload i, 2) ∧ pc + 2 = pn)
def dAL (M : Mth) (pc i pn : Nat) : Prop := (∃ k : Fin 4, decode M.2.1 pc = .ok (.aload_n k, 1) ∧ (k : Nat) = i ∧ pc + 1 = pn) ∨ (decode M.2.1 pc = .ok (.aload i, 2) ∧ pc + 2 = pn)
def dIS (M : Mth) (pc i pn : Nat) : Prop := i < M.2.2.1 ∧ ((∃ k : Fin 4, decode M.2.1 pc = .ok (.istore_n k, 1) ∧ (k : Nat) = i ∧ pc + 1 = pn) ∨ (decode M.2.1 pc = .ok (.istore i, 2) ∧ pc + 2 = pn))
def dLS (M : Mth) (pc i pn : Nat) : Prop := i + 1 < M.2.2.1 ∧ ((∃ k : Fin 4, decode M.2.1 pc = .ok (.lstore_n k, 1) ∧ (k : Nat) = i ∧ pc + 1 = pn) ∨ (decode M.2.1 pc = .ok (.lstore i, 2) ∧ pc + 2 = pn))
def dAS (M : Mth) (pc i pn : Nat) : Prop := i < M.2.2.1 ∧ ((∃ k : Fin 4, decode M.2.1 pc = .ok (.astore_n k, 1) ∧ (k : Nat) = i ∧ pc + 1 = pn) ∨ (decode M.2.1 pc = .ok (.astore i, 2) ∧ pc + 2 = pn))
def dINC (M : Mth) (pc i : Nat) (n : Int) (pn : Nat) : Prop := decode M.2.1 pc = .ok (.iinc i n, 3) ∧ i < M.2.2.1 ∧ pc + 3 = pn
def dI (M : Mth) (pc : Nat) (x : Instr) (pn : Nat) : Prop := decode M.2.1 pc = .ok (x, 1) ∧ pc + 1 = pn
def dB (M : Mth) (pc : Nat) (x : Int → Instr) (pn tg : Nat) : Prop := ∃ off : Int, decode M.2.1 pc = .ok (x off, 3) ∧ pc + 3 = pn ∧ (pc : Int) + off = (tg : Int)
def dF (M : Mth) (pc : Nat) (x : Nat → Instr) (ci k pn : Nat) : Prop := ∃ (i : Nat) (q : vw_C), decode M.2.1 pc = .ok (x i, 3) ∧ pc + 3 = pn ∧ vwCl[ci]? = some q ∧ q.2.2 = nfc ci ∧ k < nfc ci ∧ Cond.fieldLink M.2.2.2.2 i (q.2.1 k).1 (q.2.1 k).2.1 (q.2.1 k).2.2.1 ∈ WL
def r32 (x : Int) : Prop := -2147483648 ≤ x ∧ x < 2147483648
def r64 (x : Int) : Prop := -9223372036854775808 ≤ x ∧ x < 9223372036854775808
theorem t32 {x : Int} (h : r32 x) : (Int32.ofInt x).toInt = x := Int32.toInt_ofInt_of_le h.1 h.2
theorem t64 {x : Int} (h : r64 x) : (Int64.ofInt x).toInt = x := Int64.toInt_ofInt_of_le h.1 h.2
theorem i32_eq {x y : Int} (hx : r32 x) (hy : r32 y) : Int32.ofInt x = Int32.ofInt y ↔ x = y := by rw [← Int32.toInt_inj, t32 hx, t32 hy]
theorem i32_lt {x y : Int} (hx : r32 x) (hy : r32 y) : Int32.ofInt x < Int32.ofInt y ↔ x < y := by rw [Int32.lt_iff_toInt_lt, t32 hx, t32 hy]
theorem i32_le {x y : Int} (hx : r32 x) (hy : r32 y) : Int32.ofInt x ≤ Int32.ofInt y ↔ x ≤ y := by rw [Int32.le_iff_toInt_le, t32 hx, t32 hy]
theorem i64_eq {x y : Int} (hx : r64 x) (hy : r64 y) : Int64.ofInt x = Int64.ofInt y ↔ x = y := by rw [← Int64.toInt_inj, t64 hx, t64 hy]
theorem i64_lt {x y : Int} (hx : r64 x) (hy : r64 y) : Int64.ofInt x < Int64.ofInt y ↔ x < y := by rw [Int64.lt_iff_toInt_lt, t64 hx, t64 hy]
theorem i32_0 : (0 : Int32) = Int32.ofInt 0 := rfl
theorem i32_in {x : Int} {n : Nat} (h : 0 ≤ x ∧ x < (n : Int)) (hn : n < 2147483648) : vp_in (Int32.ofInt x) n ∧ (Int32.ofInt x).toNatClampNeg = x.toNat := by
  have hr : r32 x := ⟨by omega, by omega⟩
  have h1 : (Int32.ofInt x).toInt = x := t32 hr
  refine ⟨vp_in_iff.mpr (by rw [h1]; exact h), ?_⟩
  show (Int32.ofInt x).toInt.toNat = x.toNat
  rw [h1]
