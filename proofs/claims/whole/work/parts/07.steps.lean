section TROWS
variable {G : GG} {M : Mth} {Rm : Room} {n0 nx pc pn : Nat} {Z : List Frame → Array Value → State → State → Prop} {ls ls' : List (Nat × AV)} {st : List AV} {V : VV} {R : RR}

theorem T_k {n : Int} (h : dK M pc n pn) (k : TT G M Rm n0 Z nx pn ls (vi n :: st) V R) : TT G M Rm n0 Z nx pc ls st V R := by
  intro p e s m args below meth c H locs lr C hW hS hl
  have k := k p e s m args below meth c H locs lr C hW hS hl
  rcases h with ⟨hd, rfl⟩ | ⟨hd, rfl, hv⟩ | ⟨hd, rfl, hv⟩ | ⟨i, hd, rfl, hv⟩ | ⟨i, hd, rfl, hv⟩
  · exact lv_iconst C.1 C.2.1 hd rfl k
  · exact lv_bipush C.1 C.2.1 hd hv k
  · exact lv_sipush C.1 C.2.1 hd hv k
  · exact lv_ldc C.1 C.2.1 C.2.2.2.2.1 (C.2.2.2.2.2.1 _ hv) hd k
  · exact lv_ldcw C.1 C.2.1 C.2.2.2.2.1 (C.2.2.2.2.2.1 _ hv) hd k

theorem T_jk {n : Int} (h : dJ M pc n pn) (k : TT G M Rm n0 Z nx pn ls (vj n :: st) V R) : TT G M Rm n0 Z nx pc ls st V R := by
  intro p e s m args below meth c H locs lr C hW hS hl
  have k := k p e s m args below meth c H locs lr C hW hS hl
  rcases h with ⟨i, hd, rfl, hv⟩ | ⟨i, hd, rfl, hv⟩
  · exact lv_lconst C.1 C.2.1 hd hv k
  · exact lv_ldc2 C.1 C.2.1 C.2.2.2.2.1 (C.2.2.2.2.2.1 _ hv) hd k

theorem T_il {i : Nat} {x : Int} (h : dIL M pc i pn) (hx : lkp i ls = some (vi x)) (k : TT G M Rm n0 Z nx pn ls (vi x :: st) V R) : TT G M Rm n0 Z nx pc ls st V R := by
  intro p e s m args below meth c H locs lr C hW hS hl
  have k := k p e s m args below meth c H locs lr C hW hS hl
  have hx := lkp_has hl hx
  rcases h with ⟨i, hd, he, rfl⟩ | ⟨hd, rfl⟩
  · exact lv_iload_n C.1 C.2.1 hd he hx k
  · exact lv_iload C.1 C.2.1 hd hx k

theorem T_ll {i : Nat} {x : Int} (h : dLL M pc i pn) (hx : lkp i ls = some (vj x)) (k : TT G M Rm n0 Z nx pn ls (vj x :: st) V R) : TT G M Rm n0 Z nx pc ls st V R := by
  intro p e s m args below meth c H locs lr C hW hS hl
  have k := k p e s m args below meth c H locs lr C hW hS hl
  have hx := lkp_has hl hx
  rcases h with ⟨i, hd, he, rfl⟩ | ⟨hd, rfl⟩
  · exact lv_lload_n C.1 C.2.1 hd he hx k
  · exact lv_lload C.1 C.2.1 hd hx k

theorem T_al {i : Nat} {x : Option Nat} (h : dAL M pc i pn) (hx : lkp i ls = some (vq x)) (k : TT G M Rm n0 Z nx pn ls (vq x :: st) V R) : TT G M Rm n0 Z nx pc ls st V R := by
  intro p e s m args below meth c H locs lr C hW hS hl
  have k := k p e s m args below meth c H locs lr C hW hS hl
  have hx := lkp_has hl hx
  cases x with
  | none =>
    rcases h with ⟨i, hd, he, rfl⟩ | ⟨hd, rfl⟩
    · exact lv_aload_nN C.1 C.2.1 hd he hx k
    · exact lv_aloadN C.1 C.2.1 hd hx k
  | some x =>
    rcases h with ⟨i, hd, he, rfl⟩ | ⟨hd, rfl⟩
    · exact lv_aload_n C.1 C.2.1 hd he hx k
    · exact lv_aload C.1 C.2.1 hd hx k

theorem T_is {i : Nat} {x : Int} (h : dIS M pc i pn) (he : insS (i, vi x) (ls.filter (keep1 i)) = ls') (k : TT G M Rm n0 Z nx pn ls' st V R) : TT G M Rm n0 Z nx pc ls (vi x :: st) V R := by
  intro p e s m args below meth c H locs lr C hW hS hl
  subst he
  obtain ⟨hi, h⟩ := h
  rcases h with ⟨i, hd, he, rfl⟩ | ⟨hd, rfl⟩
  · exact lv_istore_n C.1 C.2.1 hd he hl hi (congrArg _ (keep1_map G _ ls)) (fun lr hl => k p e s m args below meth c H locs lr C hW hS (has_ins hl))
  · exact lv_istore C.1 C.2.1 hd hl hi (congrArg _ (keep1_map G _ ls)) (fun lr hl => k p e s m args below meth c H locs lr C hW hS (has_ins hl))

theorem T_ls {i : Nat} {x : Int} (h : dLS M pc i pn) (he : insS (i, vj x) (ls.filter (keep2 i)) = ls') (k : TT G M Rm n0 Z nx pn ls' st V R) : TT G M Rm n0 Z nx pc ls (vj x :: st) V R := by
  intro p e s m args below meth c H locs lr C hW hS hl
  subst he
  obtain ⟨hi, h⟩ := h
  rcases h with ⟨i, hd, he, rfl⟩ | ⟨hd, rfl⟩
  · exact lv_lstore_n C.1 C.2.1 hd he hl hi (congrArg _ (keep2_map G _ ls)) (fun lr hl => k p e s m args below meth c H locs lr C hW hS (has_ins hl))
  · exact lv_lstore C.1 C.2.1 hd hl hi (congrArg _ (keep2_map G _ ls)) (fun lr hl => k p e s m args below meth c H locs lr C hW hS (has_ins hl))

theorem T_as {i : Nat} {x : Option Nat} (h : dAS M pc i pn) (he : insS (i, vq x) (ls.filter (keep1 i)) = ls') (k : TT G M Rm n0 Z nx pn ls' st V R) : TT G M Rm n0 Z nx pc ls (vq x :: st) V R := by
  intro p e s m args below meth c H locs lr C hW hS hl
  subst he
  obtain ⟨hi, h⟩ := h
  cases x with
  | none =>
    rcases h with ⟨i, hd, he, rfl⟩ | ⟨hd, rfl⟩
    · exact lv_astore_nN C.1 C.2.1 hd he hl hi (congrArg _ (keep1_map G _ ls)) (fun lr hl => k p e s m args below meth c H locs lr C hW hS (has_ins (v := vn) hl))
    · exact lv_astoreN C.1 C.2.1 hd hl hi (congrArg _ (keep1_map G _ ls)) (fun lr hl => k p e s m args below meth c H locs lr C hW hS (has_ins (v := vn) hl))
  | some x =>
    rcases h with ⟨i, hd, he, rfl⟩ | ⟨hd, rfl⟩
    · exact lv_astore_n C.1 C.2.1 hd he hl hi (congrArg _ (keep1_map G _ ls)) (fun lr hl => k p e s m args below meth c H locs lr C hW hS (has_ins (v := vr x) hl))
    · exact lv_astore C.1 C.2.1 hd hl hi (congrArg _ (keep1_map G _ ls)) (fun lr hl => k p e s m args below meth c H locs lr C hW hS (has_ins (v := vr x) hl))

theorem T_inc {i : Nat} {n x y : Int} (h : dINC M pc i n pn) (hx : lkp i ls = some (vi x)) (hy : x + n = y) (he : insS (i, vi y) (ls.filter (keep1 i)) = ls') (k : TT G M Rm n0 Z nx pn ls' st V R) : TT G M Rm n0 Z nx pc ls st V R := by
  intro p e s m args below meth c H locs lr C hW hS hl
  subst he
  obtain ⟨hd, hi, rfl⟩ := h
  obtain ⟨j, hj⟩ := List.getElem?_of_mem (List.mem_map_of_mem (f := cl2 G) (lkp_mem hx))
  refine lv_iinc (v := Int32.ofInt y) C.1 C.2.1 hd hl (k := j) hj (by rw [← hy, Int32.ofInt_add]) hi (congrArg _ (keep1_map G _ ls)) (fun lr hl => k p e s m args below meth c H locs lr C hW hS (has_ins (v := vi y) hl))

theorem T_iadd {x y : Int} (h : dI M pc .iadd pn) (k : TT G M Rm n0 Z nx pn ls (vi (x + y) :: st) V R) : TT G M Rm n0 Z nx pc ls (vi y :: vi x :: st) V R := by
  intro p e s m args below meth c H locs lr C hW hS hl
  obtain ⟨hd, rfl⟩ := h
  have k := k p e s m args below meth c H locs lr C hW hS hl
  have e : cv G (vi (x + y)) = .int (Int32.ofInt (x + y)) := rfl
  simp only [List.map_cons, e, Int32.ofInt_add] at k
  exact lv_iadd C.1 C.2.1 hd k

theorem T_isub {x y : Int} (h : dI M pc .isub pn) (k : TT G M Rm n0 Z nx pn ls (vi (x - y) :: st) V R) : TT G M Rm n0 Z nx pc ls (vi y :: vi x :: st) V R := by
  intro p e s m args below meth c H locs lr C hW hS hl
  obtain ⟨hd, rfl⟩ := h
  have k := k p e s m args below meth c H locs lr C hW hS hl
  have e : cv G (vi (x - y)) = .int (Int32.ofInt (x - y)) := rfl
  simp only [List.map_cons, e, Int32.ofInt_sub] at k
  exact lv_isub C.1 C.2.1 hd k

theorem T_imul {x y : Int} (h : dI M pc .imul pn) (k : TT G M Rm n0 Z nx pn ls (vi (x * y) :: st) V R) : TT G M Rm n0 Z nx pc ls (vi y :: vi x :: st) V R := by
  intro p e s m args below meth c H locs lr C hW hS hl
  obtain ⟨hd, rfl⟩ := h
  have k := k p e s m args below meth c H locs lr C hW hS hl
  have e : cv G (vi (x * y)) = .int (Int32.ofInt (x * y)) := rfl
  simp only [List.map_cons, e, Int32.ofInt_mul] at k
  exact lv_imul C.1 C.2.1 hd k

theorem T_ladd {x y : Int} (h : dI M pc .ladd pn) (k : TT G M Rm n0 Z nx pn ls (vj (x + y) :: st) V R) : TT G M Rm n0 Z nx pc ls (vj y :: vj x :: st) V R := by
  intro p e s m args below meth c H locs lr C hW hS hl
  obtain ⟨hd, rfl⟩ := h
  have k := k p e s m args below meth c H locs lr C hW hS hl
  have e : cv G (vj (x + y)) = .long (Int64.ofInt (x + y)) := rfl
  simp only [List.map_cons, e, Int64.ofInt_add] at k
  exact lv_ladd C.1 C.2.1 hd k

theorem T_lsub {x y : Int} (h : dI M pc .lsub pn) (k : TT G M Rm n0 Z nx pn ls (vj (x - y) :: st) V R) : TT G M Rm n0 Z nx pc ls (vj y :: vj x :: st) V R := by
  intro p e s m args below meth c H locs lr C hW hS hl
  obtain ⟨hd, rfl⟩ := h
  have k := k p e s m args below meth c H locs lr C hW hS hl
  have e : cv G (vj (x - y)) = .long (Int64.ofInt (x - y)) := rfl
  simp only [List.map_cons, e, Int64.ofInt_sub] at k
  exact lv_lsub C.1 C.2.1 hd k

theorem T_lmul {x y : Int} (h : dI M pc .lmul pn) (k : TT G M Rm n0 Z nx pn ls (vj (x * y) :: st) V R) : TT G M Rm n0 Z nx pc ls (vj y :: vj x :: st) V R := by
  intro p e s m args below meth c H locs lr C hW hS hl
  obtain ⟨hd, rfl⟩ := h
  have k := k p e s m args below meth c H locs lr C hW hS hl
  have e : cv G (vj (x * y)) = .long (Int64.ofInt (x * y)) := rfl
  simp only [List.map_cons, e, Int64.ofInt_mul] at k
  exact lv_lmul C.1 C.2.1 hd k

theorem T_ineg {x : Int} (h : dI M pc .ineg pn) (k : TT G M Rm n0 Z nx pn ls (vi (-x) :: st) V R) : TT G M Rm n0 Z nx pc ls (vi x :: st) V R := by
  intro p e s m args below meth c H locs lr C hW hS hl
  obtain ⟨hd, rfl⟩ := h
  have k := k p e s m args below meth c H locs lr C hW hS hl
  have e : cv G (vi (-x)) = .int (Int32.ofInt (-x)) := rfl
  simp only [List.map_cons, e, Int32.ofInt_neg] at k
  exact lv_ineg C.1 C.2.1 hd k

def iandZ (x y : Int) : Int := (Int32.ofInt x &&& Int32.ofInt y).toInt

theorem T_iand {x y : Int} (h : dI M pc .iand pn) (k : TT G M Rm n0 Z nx pn ls (vi (iandZ x y) :: st) V R) : TT G M Rm n0 Z nx pc ls (vi y :: vi x :: st) V R := by
  intro p e s m args below meth c H locs lr C hW hS hl
  obtain ⟨hd, rfl⟩ := h
  have k := k p e s m args below meth c H locs lr C hW hS hl
  have e : cv G (vi (iandZ x y)) = .int (Int32.ofInt x &&& Int32.ofInt y) := congrArg Value.int (Int32.ofInt_toInt _)
  simp only [List.map_cons, e] at k
  exact lv_iand C.1 C.2.1 hd k

def iorZ (x y : Int) : Int := (Int32.ofInt x ||| Int32.ofInt y).toInt

theorem T_ior {x y : Int} (h : dI M pc .ior pn) (k : TT G M Rm n0 Z nx pn ls (vi (iorZ x y) :: st) V R) : TT G M Rm n0 Z nx pc ls (vi y :: vi x :: st) V R := by
  intro p e s m args below meth c H locs lr C hW hS hl
  obtain ⟨hd, rfl⟩ := h
  have k := k p e s m args below meth c H locs lr C hW hS hl
  have e : cv G (vi (iorZ x y)) = .int (Int32.ofInt x ||| Int32.ofInt y) := congrArg Value.int (Int32.ofInt_toInt _)
  simp only [List.map_cons, e] at k
  exact lv_ior C.1 C.2.1 hd k

def ixorZ (x y : Int) : Int := (Int32.ofInt x ^^^ Int32.ofInt y).toInt

theorem T_ixor {x y : Int} (h : dI M pc .ixor pn) (k : TT G M Rm n0 Z nx pn ls (vi (ixorZ x y) :: st) V R) : TT G M Rm n0 Z nx pc ls (vi y :: vi x :: st) V R := by
  intro p e s m args below meth c H locs lr C hW hS hl
  obtain ⟨hd, rfl⟩ := h
  have k := k p e s m args below meth c H locs lr C hW hS hl
  have e : cv G (vi (ixorZ x y)) = .int (Int32.ofInt x ^^^ Int32.ofInt y) := congrArg Value.int (Int32.ofInt_toInt _)
  simp only [List.map_cons, e] at k
  exact lv_ixor C.1 C.2.1 hd k

def ishlZ (x y : Int) : Int := (Int32.ofInt x <<< (Int32.ofInt y &&& 31)).toInt

theorem T_ishl {x y : Int} (h : dI M pc .ishl pn) (k : TT G M Rm n0 Z nx pn ls (vi (ishlZ x y) :: st) V R) : TT G M Rm n0 Z nx pc ls (vi y :: vi x :: st) V R := by
  intro p e s m args below meth c H locs lr C hW hS hl
  obtain ⟨hd, rfl⟩ := h
  have k := k p e s m args below meth c H locs lr C hW hS hl
  have e : cv G (vi (ishlZ x y)) = .int (Int32.ofInt x <<< (Int32.ofInt y &&& 31)) := congrArg Value.int (Int32.ofInt_toInt _)
  simp only [List.map_cons, e] at k
  exact lv_ishl C.1 C.2.1 hd k

def ishrZ (x y : Int) : Int := (Int32.ofInt x >>> (Int32.ofInt y &&& 31)).toInt

theorem T_ishr {x y : Int} (h : dI M pc .ishr pn) (k : TT G M Rm n0 Z nx pn ls (vi (ishrZ x y) :: st) V R) : TT G M Rm n0 Z nx pc ls (vi y :: vi x :: st) V R := by
  intro p e s m args below meth c H locs lr C hW hS hl
  obtain ⟨hd, rfl⟩ := h
  have k := k p e s m args below meth c H locs lr C hW hS hl
  have e : cv G (vi (ishrZ x y)) = .int (Int32.ofInt x >>> (Int32.ofInt y &&& 31)) := congrArg Value.int (Int32.ofInt_toInt _)
  simp only [List.map_cons, e] at k
  exact lv_ishr C.1 C.2.1 hd k

def landZ (x y : Int) : Int := (Int64.ofInt x &&& Int64.ofInt y).toInt

theorem T_land {x y : Int} (h : dI M pc .land pn) (k : TT G M Rm n0 Z nx pn ls (vj (landZ x y) :: st) V R) : TT G M Rm n0 Z nx pc ls (vj y :: vj x :: st) V R := by
  intro p e s m args below meth c H locs lr C hW hS hl
  obtain ⟨hd, rfl⟩ := h
  have k := k p e s m args below meth c H locs lr C hW hS hl
  have e : cv G (vj (landZ x y)) = .long (Int64.ofInt x &&& Int64.ofInt y) := congrArg Value.long (Int64.ofInt_toInt _)
  simp only [List.map_cons, e] at k
  exact lv_land C.1 C.2.1 hd k

def lorZ (x y : Int) : Int := (Int64.ofInt x ||| Int64.ofInt y).toInt

theorem T_lor {x y : Int} (h : dI M pc .lor pn) (k : TT G M Rm n0 Z nx pn ls (vj (lorZ x y) :: st) V R) : TT G M Rm n0 Z nx pc ls (vj y :: vj x :: st) V R := by
  intro p e s m args below meth c H locs lr C hW hS hl
  obtain ⟨hd, rfl⟩ := h
  have k := k p e s m args below meth c H locs lr C hW hS hl
  have e : cv G (vj (lorZ x y)) = .long (Int64.ofInt x ||| Int64.ofInt y) := congrArg Value.long (Int64.ofInt_toInt _)
  simp only [List.map_cons, e] at k
  exact lv_lor C.1 C.2.1 hd k

def lxorZ (x y : Int) : Int := (Int64.ofInt x ^^^ Int64.ofInt y).toInt

theorem T_lxor {x y : Int} (h : dI M pc .lxor pn) (k : TT G M Rm n0 Z nx pn ls (vj (lxorZ x y) :: st) V R) : TT G M Rm n0 Z nx pc ls (vj y :: vj x :: st) V R := by
  intro p e s m args below meth c H locs lr C hW hS hl
  obtain ⟨hd, rfl⟩ := h
  have k := k p e s m args below meth c H locs lr C hW hS hl
  have e : cv G (vj (lxorZ x y)) = .long (Int64.ofInt x ^^^ Int64.ofInt y) := congrArg Value.long (Int64.ofInt_toInt _)
  simp only [List.map_cons, e] at k
  exact lv_lxor C.1 C.2.1 hd k

def iushrZ (x y : Int) : Int := ((Int32.ofInt x).toUInt32 >>> ((Int32.ofInt y).toUInt32 &&& Int32.toUInt32 31)).toInt32.toInt

theorem T_iushr {x y : Int} (h : dI M pc .iushr pn) (k : TT G M Rm n0 Z nx pn ls (vi (iushrZ x y) :: st) V R) : TT G M Rm n0 Z nx pc ls (vi y :: vi x :: st) V R := by
  intro p e s m args below meth c H locs lr C hW hS hl
  obtain ⟨hd, rfl⟩ := h
  have k := k p e s m args below meth c H locs lr C hW hS hl
  have e : cv G (vi (iushrZ x y)) = .int (((Int32.ofInt x).toUInt32 >>> ((Int32.ofInt y).toUInt32 &&& Int32.toUInt32 31)).toInt32) := congrArg Value.int (Int32.ofInt_toInt _)
  simp only [List.map_cons, e] at k
  exact lv_iushr C.1 C.2.1 hd rfl k

def lshlZ (x y : Int) : Int := (Int64.ofInt x <<< ((Int32.ofInt y).toInt64 &&& 63)).toInt

theorem T_lshl {x y : Int} (h : dI M pc .lshl pn) (k : TT G M Rm n0 Z nx pn ls (vj (lshlZ x y) :: st) V R) : TT G M Rm n0 Z nx pc ls (vi y :: vj x :: st) V R := by
  intro p e s m args below meth c H locs lr C hW hS hl
  obtain ⟨hd, rfl⟩ := h
  have k := k p e s m args below meth c H locs lr C hW hS hl
  have e : cv G (vj (lshlZ x y)) = .long (Int64.ofInt x <<< ((Int32.ofInt y).toInt64 &&& 63)) := congrArg Value.long (Int64.ofInt_toInt _)
  simp only [List.map_cons, e] at k
  exact lv_lshl C.1 C.2.1 hd rfl k

def lshrZ (x y : Int) : Int := (Int64.ofInt x >>> ((Int32.ofInt y).toInt64 &&& 63)).toInt

theorem T_lshr {x y : Int} (h : dI M pc .lshr pn) (k : TT G M Rm n0 Z nx pn ls (vj (lshrZ x y) :: st) V R) : TT G M Rm n0 Z nx pc ls (vi y :: vj x :: st) V R := by
  intro p e s m args below meth c H locs lr C hW hS hl
  obtain ⟨hd, rfl⟩ := h
  have k := k p e s m args below meth c H locs lr C hW hS hl
  have e : cv G (vj (lshrZ x y)) = .long (Int64.ofInt x >>> ((Int32.ofInt y).toInt64 &&& 63)) := congrArg Value.long (Int64.ofInt_toInt _)
  simp only [List.map_cons, e] at k
  exact lv_lshr C.1 C.2.1 hd rfl k

theorem T_i2l {x : Int} (h : dI M pc .i2l pn) (hx : r32 x) (k : TT G M Rm n0 Z nx pn ls (vj x :: st) V R) : TT G M Rm n0 Z nx pc ls (vi x :: st) V R := by
  intro p e s m args below meth c H locs lr C hW hS hl
  obtain ⟨hd, rfl⟩ := h
  have k := k p e s m args below meth c H locs lr C hW hS hl
  have hv : (Int32.ofInt x).toInt64 = Int64.ofInt x := Int64.toInt_inj.mp (by rw [Int32.toInt_toInt64, t32 hx, t64 ⟨by unfold r32 at hx; omega, by unfold r32 at hx; omega⟩])
  exact lv_i2l C.1 C.2.1 hd hv k

theorem T_l2i {x : Int} (h : dI M pc .l2i pn) (k : TT G M Rm n0 Z nx pn ls (vi x :: st) V R) : TT G M Rm n0 Z nx pc ls (vj x :: st) V R := by
  intro p e s m args below meth c H locs lr C hW hS hl
  obtain ⟨hd, rfl⟩ := h
  have k := k p e s m args below meth c H locs lr C hW hS hl
  have hv : (Int64.ofInt x).toInt32 = Int32.ofInt x := by simp
  exact lv_l2i C.1 C.2.1 hd hv k

def i2bZ (x : Int) : Int := (Int32.ofInt x).toInt8.toInt32.toInt

theorem T_i2b {x : Int} (h : dI M pc .i2b pn) (k : TT G M Rm n0 Z nx pn ls (vi (i2bZ x) :: st) V R) : TT G M Rm n0 Z nx pc ls (vi x :: st) V R := by
  intro p e s m args below meth c H locs lr C hW hS hl
  obtain ⟨hd, rfl⟩ := h
  have k := k p e s m args below meth c H locs lr C hW hS hl
  exact lv_i2b C.1 C.2.1 hd (Int32.ofInt_toInt _).symm k

def i2cZ (x : Int) : Int := ((Int32.ofInt x).toUInt32 % 65536).toInt32.toInt

theorem T_i2c {x : Int} (h : dI M pc .i2c pn) (k : TT G M Rm n0 Z nx pn ls (vi (i2cZ x) :: st) V R) : TT G M Rm n0 Z nx pc ls (vi x :: st) V R := by
  intro p e s m args below meth c H locs lr C hW hS hl
  obtain ⟨hd, rfl⟩ := h
  have k := k p e s m args below meth c H locs lr C hW hS hl
  exact lv_i2c C.1 C.2.1 hd (Int32.ofInt_toInt _).symm k

theorem i32_div {x y : Int} (hx : 0 ≤ x) (hx2 : x < 2147483648) (hy : 0 < y) (hy2 : y < 2147483648) : Int32.ofInt x / Int32.ofInt y = Int32.ofInt (x / y) := by
  obtain ⟨a, rfl⟩ := Int.eq_ofNat_of_zero_le hx
  obtain ⟨b, rfl⟩ := Int.eq_ofNat_of_zero_le (Int.le_of_lt hy)
  have h := pk_div (a := a) (d := b) (by omega) (by omega) (by omega)
  have e1 : ∀ n : Nat, Int32.ofInt (n : Int) = nI n := fun n => rfl
  rw [e1, e1, h, ← e1]
  congr 1
theorem i32_rem {x y : Int} (hx : 0 ≤ x) (hx2 : x < 2147483648) (hy : 0 < y) (hy2 : y < 2147483648) : Int32.ofInt x - Int32.ofInt x / Int32.ofInt y * Int32.ofInt y = Int32.ofInt (x % y) := by
  rw [i32_div hx hx2 hy hy2, ← Int32.ofInt_mul, ← Int32.ofInt_sub]
  congr 1
  have := Int.emod_add_mul_ediv x y
  rw [Int.mul_comm] at this
  omega

theorem T_idiv {x y : Int} (h : dI M pc .idiv pn) (hx : 0 ≤ x ∧ x < 2147483648) (hy : 0 < y ∧ y < 2147483648) (k : TT G M Rm n0 Z nx pn ls (vi (x / y) :: st) V R) : TT G M Rm n0 Z nx pc ls (vi y :: vi x :: st) V R := by
  intro p e s m args below meth c H locs lr C hW hS hl
  obtain ⟨hd, rfl⟩ := h
  have k := k p e s m args below meth c H locs lr C hW hS hl
  have e : cv G (vi (x / y)) = .int (Int32.ofInt x / Int32.ofInt y) := congrArg Value.int (i32_div hx.1 hx.2 hy.1 hy.2).symm
  simp only [List.map_cons, e] at k
  have hne : ¬ Int32.ofInt y = 0 := fun q => by
    have := (i32_eq (x := y) (y := 0) ⟨by omega, hy.2⟩ ⟨by decide, by decide⟩).mp q
    omega
  exact lv_idiv C.1 C.2.1 hd hne k

theorem T_irem {x y : Int} (h : dI M pc .irem pn) (hx : 0 ≤ x ∧ x < 2147483648) (hy : 0 < y ∧ y < 2147483648) (k : TT G M Rm n0 Z nx pn ls (vi (x % y) :: st) V R) : TT G M Rm n0 Z nx pc ls (vi y :: vi x :: st) V R := by
  intro p e s m args below meth c H locs lr C hW hS hl
  obtain ⟨hd, rfl⟩ := h
  have k := k p e s m args below meth c H locs lr C hW hS hl
  have e : cv G (vi (x % y)) = .int (Int32.ofInt x - Int32.ofInt x / Int32.ofInt y * Int32.ofInt y) := congrArg Value.int (i32_rem hx.1 hx.2 hy.1 hy.2).symm
  simp only [List.map_cons, e] at k
  have hne : ¬ Int32.ofInt y = 0 := fun q => by
    have := (i32_eq (x := y) (y := 0) ⟨by omega, hy.2⟩ ⟨by decide, by decide⟩).mp q
    omega
  exact lv_irem C.1 C.2.1 hd hne k

theorem T_dup {x : AV} (h : dI M pc .dup pn) (hj : isJ x = false) (k : TT G M Rm n0 Z nx pn ls (x :: x :: st) V R) : TT G M Rm n0 Z nx pc ls (x :: st) V R := by
  intro p e s m args below meth c H locs lr C hW hS hl
  obtain ⟨hd, rfl⟩ := h
  have k := k p e s m args below meth c H locs lr C hW hS hl
  exact lv_dup C.1 C.2.1 hd (by rw [cv_cat, hj]; rfl) k

theorem T_pop {x : AV} (h : dI M pc .pop pn) (hj : isJ x = false) (k : TT G M Rm n0 Z nx pn ls (st) V R) : TT G M Rm n0 Z nx pc ls (x :: st) V R := by
  intro p e s m args below meth c H locs lr C hW hS hl
  obtain ⟨hd, rfl⟩ := h
  have k := k p e s m args below meth c H locs lr C hW hS hl
  exact lv_pop C.1 C.2.1 hd (by rw [cv_cat, hj]; rfl) k

theorem T_dupx1 {x y : AV} (h : dI M pc .dup_x1 pn) (hj : isJ x = false) (hy : isJ y = false) (k : TT G M Rm n0 Z nx pn ls (x :: y :: x :: st) V R) : TT G M Rm n0 Z nx pc ls (x :: y :: st) V R := by
  intro p e s m args below meth c H locs lr C hW hS hl
  obtain ⟨hd, rfl⟩ := h
  have k := k p e s m args below meth c H locs lr C hW hS hl
  exact lv_dup_x1 C.1 C.2.1 hd (by rw [cv_cat, hj]; rfl) (by rw [cv_cat, hy]; rfl) k

theorem T_dup2 {x y : AV} (h : dI M pc .dup2 pn) (hj : isJ x = false) (hy : isJ y = false) (k : TT G M Rm n0 Z nx pn ls (x :: y :: x :: y :: st) V R) : TT G M Rm n0 Z nx pc ls (x :: y :: st) V R := by
  intro p e s m args below meth c H locs lr C hW hS hl
  obtain ⟨hd, rfl⟩ := h
  have k := k p e s m args below meth c H locs lr C hW hS hl
  exact lv_dup2_11 C.1 C.2.1 hd (by rw [cv_cat, hj]; rfl) (by rw [cv_cat, hy]; rfl) k

theorem T_null (h : dI M pc .aconst_null pn) (k : TT G M Rm n0 Z nx pn ls (vn :: st) V R) : TT G M Rm n0 Z nx pc ls (st) V R := by
  intro p e s m args below meth c H locs lr C hW hS hl
  obtain ⟨hd, rfl⟩ := h
  have k := k p e s m args below meth c H locs lr C hW hS hl
  exact lv_null C.1 C.2.1 hd k

theorem T_ieq {x y : Int} {tg : Nat} (h : dB M pc (.if_icmp .eq) pn tg) (hx : r32 x) (hy : r32 y) (kt : x = y → TT G M Rm n0 Z nx tg ls st V R) (kf : x ≠ y → TT G M Rm n0 Z nx pn ls st V R) : TT G M Rm n0 Z nx pc ls (vi y :: vi x :: st) V R := by
  intro p e s m args below meth c H locs lr C hW hS hl
  obtain ⟨off, hd, rfl, ht⟩ := h
  exact lv_icmp_eq C.1 C.2.1 hd ht (fun q => kt ((i32_eq hx hy).mp q) p e s m args below meth c H locs lr C hW hS hl) (fun q => kf (fun z => q ((i32_eq hx hy).mpr z)) p e s m args below meth c H locs lr C hW hS hl)

theorem T_zeq {x : Int} {tg : Nat} (h : dB M pc (.ifCond .eq) pn tg) (hx : r32 x) (kt : x = 0 → TT G M Rm n0 Z nx tg ls st V R) (kf : x ≠ 0 → TT G M Rm n0 Z nx pn ls st V R) : TT G M Rm n0 Z nx pc ls (vi x :: st) V R := by
  intro p e s m args below meth c H locs lr C hW hS hl
  obtain ⟨off, hd, rfl, ht⟩ := h
  have hy : r32 0 := ⟨by decide, by decide⟩
  exact lv_if_eq C.1 C.2.1 hd ht (fun q => kt ((i32_eq hx hy).mp q) p e s m args below meth c H locs lr C hW hS hl) (fun q => kf (fun z => q ((i32_eq hx hy).mpr z)) p e s m args below meth c H locs lr C hW hS hl)

theorem T_ine {x y : Int} {tg : Nat} (h : dB M pc (.if_icmp .ne) pn tg) (hx : r32 x) (hy : r32 y) (kt : x ≠ y → TT G M Rm n0 Z nx tg ls st V R) (kf : x = y → TT G M Rm n0 Z nx pn ls st V R) : TT G M Rm n0 Z nx pc ls (vi y :: vi x :: st) V R := by
  intro p e s m args below meth c H locs lr C hW hS hl
  obtain ⟨off, hd, rfl, ht⟩ := h
  exact lv_icmp_ne C.1 C.2.1 hd ht (fun q => kt (fun z => q ((i32_eq hx hy).mpr z)) p e s m args below meth c H locs lr C hW hS hl) (fun q => kf ((i32_eq hx hy).mp q) p e s m args below meth c H locs lr C hW hS hl)

theorem T_zne {x : Int} {tg : Nat} (h : dB M pc (.ifCond .ne) pn tg) (hx : r32 x) (kt : x ≠ 0 → TT G M Rm n0 Z nx tg ls st V R) (kf : x = 0 → TT G M Rm n0 Z nx pn ls st V R) : TT G M Rm n0 Z nx pc ls (vi x :: st) V R := by
  intro p e s m args below meth c H locs lr C hW hS hl
  obtain ⟨off, hd, rfl, ht⟩ := h
  have hy : r32 0 := ⟨by decide, by decide⟩
  exact lv_if_ne C.1 C.2.1 hd ht (fun q => kt (fun z => q ((i32_eq hx hy).mpr z)) p e s m args below meth c H locs lr C hW hS hl) (fun q => kf ((i32_eq hx hy).mp q) p e s m args below meth c H locs lr C hW hS hl)

theorem T_ilt {x y : Int} {tg : Nat} (h : dB M pc (.if_icmp .lt) pn tg) (hx : r32 x) (hy : r32 y) (kt : x < y → TT G M Rm n0 Z nx tg ls st V R) (kf : y ≤ x → TT G M Rm n0 Z nx pn ls st V R) : TT G M Rm n0 Z nx pc ls (vi y :: vi x :: st) V R := by
  intro p e s m args below meth c H locs lr C hW hS hl
  obtain ⟨off, hd, rfl, ht⟩ := h
  exact lv_icmp_lt C.1 C.2.1 hd ht (fun q => kt ((i32_lt hx hy).mp q) p e s m args below meth c H locs lr C hW hS hl) (fun q => kf (Int.not_lt.mp fun z => q ((i32_lt hx hy).mpr z)) p e s m args below meth c H locs lr C hW hS hl)

theorem T_zlt {x : Int} {tg : Nat} (h : dB M pc (.ifCond .lt) pn tg) (hx : r32 x) (kt : x < 0 → TT G M Rm n0 Z nx tg ls st V R) (kf : 0 ≤ x → TT G M Rm n0 Z nx pn ls st V R) : TT G M Rm n0 Z nx pc ls (vi x :: st) V R := by
  intro p e s m args below meth c H locs lr C hW hS hl
  obtain ⟨off, hd, rfl, ht⟩ := h
  have hy : r32 0 := ⟨by decide, by decide⟩
  exact lv_if_lt C.1 C.2.1 hd ht (fun q => kt ((i32_lt hx hy).mp q) p e s m args below meth c H locs lr C hW hS hl) (fun q => kf (Int.not_lt.mp fun z => q ((i32_lt hx hy).mpr z)) p e s m args below meth c H locs lr C hW hS hl)

theorem T_ige {x y : Int} {tg : Nat} (h : dB M pc (.if_icmp .ge) pn tg) (hx : r32 x) (hy : r32 y) (kt : y ≤ x → TT G M Rm n0 Z nx tg ls st V R) (kf : x < y → TT G M Rm n0 Z nx pn ls st V R) : TT G M Rm n0 Z nx pc ls (vi y :: vi x :: st) V R := by
  intro p e s m args below meth c H locs lr C hW hS hl
  obtain ⟨off, hd, rfl, ht⟩ := h
  exact lv_icmp_ge C.1 C.2.1 hd ht (fun q => kt ((i32_le hy hx).mp q) p e s m args below meth c H locs lr C hW hS hl) (fun q => kf (Int.not_le.mp fun z => q ((i32_le hy hx).mpr z)) p e s m args below meth c H locs lr C hW hS hl)

theorem T_zge {x : Int} {tg : Nat} (h : dB M pc (.ifCond .ge) pn tg) (hx : r32 x) (kt : 0 ≤ x → TT G M Rm n0 Z nx tg ls st V R) (kf : x < 0 → TT G M Rm n0 Z nx pn ls st V R) : TT G M Rm n0 Z nx pc ls (vi x :: st) V R := by
  intro p e s m args below meth c H locs lr C hW hS hl
  obtain ⟨off, hd, rfl, ht⟩ := h
  have hy : r32 0 := ⟨by decide, by decide⟩
  exact lv_if_ge C.1 C.2.1 hd ht (fun q => kt ((i32_le hy hx).mp q) p e s m args below meth c H locs lr C hW hS hl) (fun q => kf (Int.not_le.mp fun z => q ((i32_le hy hx).mpr z)) p e s m args below meth c H locs lr C hW hS hl)

theorem T_igt {x y : Int} {tg : Nat} (h : dB M pc (.if_icmp .gt) pn tg) (hx : r32 x) (hy : r32 y) (kt : y < x → TT G M Rm n0 Z nx tg ls st V R) (kf : x ≤ y → TT G M Rm n0 Z nx pn ls st V R) : TT G M Rm n0 Z nx pc ls (vi y :: vi x :: st) V R := by
  intro p e s m args below meth c H locs lr C hW hS hl
  obtain ⟨off, hd, rfl, ht⟩ := h
  exact lv_icmp_gt C.1 C.2.1 hd ht (fun q => kt ((i32_lt hy hx).mp q) p e s m args below meth c H locs lr C hW hS hl) (fun q => kf (Int.not_lt.mp fun z => q ((i32_lt hy hx).mpr z)) p e s m args below meth c H locs lr C hW hS hl)

theorem T_zgt {x : Int} {tg : Nat} (h : dB M pc (.ifCond .gt) pn tg) (hx : r32 x) (kt : 0 < x → TT G M Rm n0 Z nx tg ls st V R) (kf : x ≤ 0 → TT G M Rm n0 Z nx pn ls st V R) : TT G M Rm n0 Z nx pc ls (vi x :: st) V R := by
  intro p e s m args below meth c H locs lr C hW hS hl
  obtain ⟨off, hd, rfl, ht⟩ := h
  have hy : r32 0 := ⟨by decide, by decide⟩
  exact lv_if_gt C.1 C.2.1 hd ht (fun q => kt ((i32_lt hy hx).mp q) p e s m args below meth c H locs lr C hW hS hl) (fun q => kf (Int.not_lt.mp fun z => q ((i32_lt hy hx).mpr z)) p e s m args below meth c H locs lr C hW hS hl)

theorem T_ile {x y : Int} {tg : Nat} (h : dB M pc (.if_icmp .le) pn tg) (hx : r32 x) (hy : r32 y) (kt : x ≤ y → TT G M Rm n0 Z nx tg ls st V R) (kf : y < x → TT G M Rm n0 Z nx pn ls st V R) : TT G M Rm n0 Z nx pc ls (vi y :: vi x :: st) V R := by
  intro p e s m args below meth c H locs lr C hW hS hl
  obtain ⟨off, hd, rfl, ht⟩ := h
  exact lv_icmp_le C.1 C.2.1 hd ht (fun q => kt ((i32_le hx hy).mp q) p e s m args below meth c H locs lr C hW hS hl) (fun q => kf (Int.not_le.mp fun z => q ((i32_le hx hy).mpr z)) p e s m args below meth c H locs lr C hW hS hl)

theorem T_zle {x : Int} {tg : Nat} (h : dB M pc (.ifCond .le) pn tg) (hx : r32 x) (kt : x ≤ 0 → TT G M Rm n0 Z nx tg ls st V R) (kf : 0 < x → TT G M Rm n0 Z nx pn ls st V R) : TT G M Rm n0 Z nx pc ls (vi x :: st) V R := by
  intro p e s m args below meth c H locs lr C hW hS hl
  obtain ⟨off, hd, rfl, ht⟩ := h
  have hy : r32 0 := ⟨by decide, by decide⟩
  exact lv_if_le C.1 C.2.1 hd ht (fun q => kt ((i32_le hx hy).mp q) p e s m args below meth c H locs lr C hW hS hl) (fun q => kf (Int.not_le.mp fun z => q ((i32_le hx hy).mpr z)) p e s m args below meth c H locs lr C hW hS hl)

def bi (b : Bool) : Int := match b with
  | true => 1
  | false => 0
theorem bi_r (b : Bool) : r32 (bi b) := by cases b <;> exact ⟨by decide, by decide⟩

theorem T_bz {b : Bool} {tg : Nat} (h : dB M pc (.ifCond .eq) pn tg) (kt : b = false → TT G M Rm n0 Z nx tg ls st V R) (kf : b = true → TT G M Rm n0 Z nx pn ls st V R) : TT G M Rm n0 Z nx pc ls (vi (bi b) :: st) V R := by
  cases b with
  | true => exact T_zeq h (bi_r _) (fun q => absurd q (by decide)) (fun _ => kf rfl)
  | false => exact T_zeq h (bi_r _) (fun _ => kt rfl) (fun q => absurd rfl q)

theorem T_bnz {b : Bool} {tg : Nat} (h : dB M pc (.ifCond .ne) pn tg) (kt : b = true → TT G M Rm n0 Z nx tg ls st V R) (kf : b = false → TT G M Rm n0 Z nx pn ls st V R) : TT G M Rm n0 Z nx pc ls (vi (bi b) :: st) V R := by
  cases b with
  | true => exact T_zne h (bi_r _) (fun _ => kt rfl) (fun q => absurd q (by decide))
  | false => exact T_zne h (bi_r _) (fun q => absurd rfl q) (fun _ => kf rfl)

theorem cmp_gt {x y : Int64} (h : y < x) : lg_cmp x y = 1 := by simp [lg_cmp, h]
theorem cmp_lt {x y : Int64} (h : x < y) : lg_cmp x y = -1 := by
  have h1 : ¬ y < x := fun q => Int64.lt_irrefl (Int64.lt_trans h q)
  have h2 : ¬ x = y := fun q => Int64.lt_irrefl (q ▸ h)
  simp [lg_cmp, h1, h2]
theorem cmp_eq {x y : Int64} (h : x = y) : lg_cmp x y = 0 := by
  subst h
  simp [lg_cmp]

theorem T_lcmp {x y : Int} (h : dI M pc .lcmp pn) (hx : r64 x) (hy : r64 y) (k : TT G M Rm n0 Z nx pn ls (vi (if y < x then 1 else if x = y then 0 else -1) :: st) V R) : TT G M Rm n0 Z nx pc ls (vj y :: vj x :: st) V R := by
  intro p e s m args below meth c H locs lr C hW hS hl
  obtain ⟨hd, rfl⟩ := h
  have k := k p e s m args below meth c H locs lr C hW hS hl
  refine W.lcmp C.1 C.2.1 hd ?_
  have e : lg_cmp (Int64.ofInt x) (Int64.ofInt y) = Int32.ofInt (if y < x then 1 else if x = y then 0 else -1) := by
    by_cases h1 : y < x
    · rw [if_pos h1, cmp_gt ((i64_lt hy hx).mpr h1)]; rfl
    · by_cases h2 : x = y
      · rw [if_neg h1, if_pos h2, cmp_eq ((i64_eq hx hy).mpr h2)]; rfl
      · rw [if_neg h1, if_neg h2, cmp_lt ((i64_lt hx hy).mpr (by omega))]; rfl
  rw [e]
  exact k

theorem T_leq {x y : Int} {p1 tg : Nat} (h1 : dI M pc .lcmp p1) (h : dB M p1 (.ifCond .eq) pn tg) (hx : r64 x) (hy : r64 y) (kt : x = y → TT G M Rm n0 Z nx tg ls st V R) (kf : x ≠ y → TT G M Rm n0 Z nx pn ls st V R) : TT G M Rm n0 Z nx pc ls (vj y :: vj x :: st) V R := by
  refine T_lcmp h1 hx hy ?_
  by_cases g1 : y < x
  · rw [if_pos g1]
    exact T_zeq h ⟨by decide, by decide⟩ (fun q => absurd q (by decide)) (fun q => kf (by omega))
  · rw [if_neg g1]
    by_cases g2 : x = y
    · rw [if_pos g2]
      exact T_zeq h ⟨by decide, by decide⟩ (fun q => kt (by omega)) (fun q => absurd q (by decide))
    · rw [if_neg g2]
      exact T_zeq h ⟨by decide, by decide⟩ (fun q => absurd q (by decide)) (fun q => kf (by omega))

theorem T_lne {x y : Int} {p1 tg : Nat} (h1 : dI M pc .lcmp p1) (h : dB M p1 (.ifCond .ne) pn tg) (hx : r64 x) (hy : r64 y) (kt : x ≠ y → TT G M Rm n0 Z nx tg ls st V R) (kf : x = y → TT G M Rm n0 Z nx pn ls st V R) : TT G M Rm n0 Z nx pc ls (vj y :: vj x :: st) V R := by
  refine T_lcmp h1 hx hy ?_
  by_cases g1 : y < x
  · rw [if_pos g1]
    exact T_zne h ⟨by decide, by decide⟩ (fun q => kt (by omega)) (fun q => absurd q (by decide))
  · rw [if_neg g1]
    by_cases g2 : x = y
    · rw [if_pos g2]
      exact T_zne h ⟨by decide, by decide⟩ (fun q => absurd q (by decide)) (fun q => kf (by omega))
    · rw [if_neg g2]
      exact T_zne h ⟨by decide, by decide⟩ (fun q => kt (by omega)) (fun q => absurd q (by decide))

theorem T_llt {x y : Int} {p1 tg : Nat} (h1 : dI M pc .lcmp p1) (h : dB M p1 (.ifCond .lt) pn tg) (hx : r64 x) (hy : r64 y) (kt : x < y → TT G M Rm n0 Z nx tg ls st V R) (kf : y ≤ x → TT G M Rm n0 Z nx pn ls st V R) : TT G M Rm n0 Z nx pc ls (vj y :: vj x :: st) V R := by
  refine T_lcmp h1 hx hy ?_
  by_cases g1 : y < x
  · rw [if_pos g1]
    exact T_zlt h ⟨by decide, by decide⟩ (fun q => absurd q (by decide)) (fun q => kf (by omega))
  · rw [if_neg g1]
    by_cases g2 : x = y
    · rw [if_pos g2]
      exact T_zlt h ⟨by decide, by decide⟩ (fun q => absurd q (by decide)) (fun q => kf (by omega))
    · rw [if_neg g2]
      exact T_zlt h ⟨by decide, by decide⟩ (fun q => kt (by omega)) (fun q => absurd q (by decide))

theorem T_lge {x y : Int} {p1 tg : Nat} (h1 : dI M pc .lcmp p1) (h : dB M p1 (.ifCond .ge) pn tg) (hx : r64 x) (hy : r64 y) (kt : y ≤ x → TT G M Rm n0 Z nx tg ls st V R) (kf : x < y → TT G M Rm n0 Z nx pn ls st V R) : TT G M Rm n0 Z nx pc ls (vj y :: vj x :: st) V R := by
  refine T_lcmp h1 hx hy ?_
  by_cases g1 : y < x
  · rw [if_pos g1]
    exact T_zge h ⟨by decide, by decide⟩ (fun q => kt (by omega)) (fun q => absurd q (by decide))
  · rw [if_neg g1]
    by_cases g2 : x = y
    · rw [if_pos g2]
      exact T_zge h ⟨by decide, by decide⟩ (fun q => kt (by omega)) (fun q => absurd q (by decide))
    · rw [if_neg g2]
      exact T_zge h ⟨by decide, by decide⟩ (fun q => absurd q (by decide)) (fun q => kf (by omega))

theorem T_lgt {x y : Int} {p1 tg : Nat} (h1 : dI M pc .lcmp p1) (h : dB M p1 (.ifCond .gt) pn tg) (hx : r64 x) (hy : r64 y) (kt : y < x → TT G M Rm n0 Z nx tg ls st V R) (kf : x ≤ y → TT G M Rm n0 Z nx pn ls st V R) : TT G M Rm n0 Z nx pc ls (vj y :: vj x :: st) V R := by
  refine T_lcmp h1 hx hy ?_
  by_cases g1 : y < x
  · rw [if_pos g1]
    exact T_zgt h ⟨by decide, by decide⟩ (fun q => kt (by omega)) (fun q => absurd q (by decide))
  · rw [if_neg g1]
    by_cases g2 : x = y
    · rw [if_pos g2]
      exact T_zgt h ⟨by decide, by decide⟩ (fun q => absurd q (by decide)) (fun q => kf (by omega))
    · rw [if_neg g2]
      exact T_zgt h ⟨by decide, by decide⟩ (fun q => absurd q (by decide)) (fun q => kf (by omega))

theorem T_lle {x y : Int} {p1 tg : Nat} (h1 : dI M pc .lcmp p1) (h : dB M p1 (.ifCond .le) pn tg) (hx : r64 x) (hy : r64 y) (kt : x ≤ y → TT G M Rm n0 Z nx tg ls st V R) (kf : y < x → TT G M Rm n0 Z nx pn ls st V R) : TT G M Rm n0 Z nx pc ls (vj y :: vj x :: st) V R := by
  refine T_lcmp h1 hx hy ?_
  by_cases g1 : y < x
  · rw [if_pos g1]
    exact T_zle h ⟨by decide, by decide⟩ (fun q => absurd q (by decide)) (fun q => kf (by omega))
  · rw [if_neg g1]
    by_cases g2 : x = y
    · rw [if_pos g2]
      exact T_zle h ⟨by decide, by decide⟩ (fun q => kt (by omega)) (fun q => absurd q (by decide))
    · rw [if_neg g2]
      exact T_zle h ⟨by decide, by decide⟩ (fun q => kt (by omega)) (fun q => absurd q (by decide))

theorem T_go {tg : Nat} (h : dB M pc .goto pn tg) (k : TT G M Rm n0 Z nx tg ls st V R) : TT G M Rm n0 Z nx pc ls st V R := by
  intro p e s m args below meth c H locs lr C hW hS hl
  obtain ⟨off, hd, -, ht⟩ := h
  exact lv_goto C.1 C.2.1 hd ht (k p e s m args below meth c H locs lr C hW hS hl)

theorem T_nul {x : Option Nat} {tg : Nat} (h : dB M pc .ifnull pn tg) (kt : x = none → TT G M Rm n0 Z nx tg ls st V R) (kf : ∀ a, x = some a → TT G M Rm n0 Z nx pn ls st V R) : TT G M Rm n0 Z nx pc ls (vq x :: st) V R := by
  intro p e s m args below meth c H locs lr C hW hS hl
  obtain ⟨off, hd, rfl, ht⟩ := h
  cases x with
  | none => exact lv_ifnullN C.1 C.2.1 hd ht (kt rfl p e s m args below meth c H locs lr C hW hS hl)
  | some a => exact lv_ifnull C.1 C.2.1 hd (kf a rfl p e s m args below meth c H locs lr C hW hS hl)

theorem T_nnul {x : Option Nat} {tg : Nat} (h : dB M pc .ifnonnull pn tg) (kt : ∀ a, x = some a → TT G M Rm n0 Z nx tg ls st V R) (kf : x = none → TT G M Rm n0 Z nx pn ls st V R) : TT G M Rm n0 Z nx pc ls (vq x :: st) V R := by
  intro p e s m args below meth c H locs lr C hW hS hl
  obtain ⟨off, hd, rfl, ht⟩ := h
  cases x with
  | none => exact lv_ifnonnullN C.1 C.2.1 hd (kf rfl p e s m args below meth c H locs lr C hW hS hl)
  | some a => exact lv_ifnonnull C.1 C.2.1 hd ht (kt a rfl p e s m args below meth c H locs lr C hW hS hl)

theorem T_swi {x : Int} {dflt lo hi : Int} {offs : Array Int} {len tg : Nat} (h : decode M.2.1 pc = .ok (.tableswitch dflt lo hi offs, len)) (hx : r32 x) (h1 : lo ≤ x) (h2 : x ≤ hi) (ho : (offs[(x - lo).toNat]?).map (fun o => (pc : Int) + o) = some (tg : Int)) (k : TT G M Rm n0 Z nx tg ls st V R) : TT G M Rm n0 Z nx pc ls (vi x :: st) V R := by
  intro p e s m args below meth c H locs lr C hW hS hl
  obtain ⟨off, h3, h4⟩ := Option.map_eq_some_iff.mp ho
  exact lv_tableIn C.1 C.2.1 h (by rw [t32 hx]; omega) (by rw [t32 hx]; omega) (by rw [t32 hx]; exact h3) h4 (k p e s m args below meth c H locs lr C hW hS hl)

theorem T_swo {x : Int} {dflt lo hi : Int} {offs : Array Int} {len tg : Nat} (h : decode M.2.1 pc = .ok (.tableswitch dflt lo hi offs, len)) (hx : r32 x) (h1 : x < lo ∨ hi < x) (ho : (pc : Int) + dflt = (tg : Int)) (k : TT G M Rm n0 Z nx tg ls st V R) : TT G M Rm n0 Z nx pc ls (vi x :: st) V R := by
  intro p e s m args below meth c H locs lr C hW hS hl
  exact lv_tableOut C.1 C.2.1 h (by rw [t32 hx]; exact h1) ho (k p e s m args below meth c H locs lr C hW hS hl)

/-- fewer locals, another order -/
theorem T_sub (hs : ∀ q ∈ ls', q ∈ ls) (k : TT G M Rm n0 Z nx pc ls' st V R) : TT G M Rm n0 Z nx pc ls st V R := by
  intro p e s m args below meth c H locs lr C hW hS hl
  exact k p e s m args below meth c H locs lr C hW hS (has_sub hl hs)

end TROWS
