/-! strength: the best value alone, and turned spots -/
section
variable {b : Bk} {k : Int} {S : Sp} {Ks : Nat → Kd} {kd p q r : Nat} {z z' : Bool} {st st' : GS}
abbrev sameB (st st' : GS) : Prop := st.1 = st'.1 ∧ st.2.1 = st'.2.1
theorem stp_B (h : sameB st st') : sameB (stpG b k S Ks kd z st p q r) (stpG b k S Ks kd z' st' p q r) := by
  unfold stpG
  by_cases w : p = q ∨ p = r ∨ q = r ∨ frO b k S (Ks kd) p q r = 0
  · rw [if_pos w, if_pos w]; exact h
  · rw [if_neg w, if_neg w]
    refine ⟨rfl, ?_⟩
    dsimp only
    rw [h.1, h.2]
theorem goR_B (h : sameB st st') : ∀ n, sameB (goR b k S Ks kd z st p q n) (goR b k S Ks kd z' st' p q n)
  | 0 => h
  | n + 1 => stp_B (goR_B h n)
theorem goQ_B (h : sameB st st') : ∀ n, sameB (goQ b k S Ks kd z st p n) (goQ b k S Ks kd z' st' p n)
  | 0 => h
  | n + 1 => goR_B (goQ_B h n) S.m
theorem goP_B (h : sameB st st') : ∀ n, sameB (goP b k S Ks kd z st n) (goP b k S Ks kd z' st' n)
  | 0 => h
  | n + 1 => goQ_B (p := n) (goP_B h n) S.m
end
/-- the greatest value of a kind -/
def bgK (b : Bk) (k : Int) (S : Sp) (Ks : Nat → Kd) (kd : Nat) : Int := (goP b k S Ks kd false (false, 0, 0, fun _ _ => 0) S.m).2.1
theorem bg_is {b : Bk} {k : Int} {S : Sp} {Ks : Nat → Kd} {kd N : Nat} {l : Nat → Nat → Int} {z : Bool} : (goP b k S Ks kd z (false, 0, N, l) S.m).2.1 = bgK b k S Ks kd := (goP_B (st := (false, 0, N, l)) (st' := (false, 0, 0, fun _ _ => 0)) ⟨rfl, rfl⟩ S.m).2
/-- each spot with the y of the one so many places behind it -/
def srot (S : Sp) (t : Nat) : Sp := mkS S.m S.x (fun s => S.y ((s + t) % S.m)) S.f S.h
theorem srot_m {S : Sp} {t : Nat} : (srot S t).m = S.m := mkS_m
theorem srot_O {S : Sp} {t : Nat} (so : sO S) : sO (srot S t) := by
  refine ⟨by rw [srot_m]; exact so.1, fun i hi => ?_⟩
  rw [srot_m] at hi
  have w := so.2 i hi
  have w2 := so.2 ((i + t) % S.m) (Nat.mod_lt _ (by omega))
  exact ⟨w.1, w2.2.1, w.2.2.1, w.2.2.2⟩
theorem srot_0 {S : Sp} {V : VV} (h : mapC (srot S 0) V) : mapC S V := by
  have e : ∀ i, i < S.m → (srot S 0).y i = S.y i := fun i hi => by
    show S.y ((i + 0) % S.m) = S.y i
    rw [Nat.add_zero, Nat.mod_eq_of_lt hi]
  obtain ⟨⟨a, c⟩, d, f⟩ := h
  rw [srot_m] at a d f
  refine ⟨⟨a, fun i hi => ?_⟩, d, f⟩
  have w := c i (by rw [srot_m]; exact hi)
  rw [e i hi] at w
  exact w
/-- the map turned -/
theorem srot_C {S : Sp} {V X : VV} {t s : Nat} (h : mapC (srot S s) V) (h9 : ∀ i, i < S.m → V 49 i = S.y i) (f : chg [(47, 47)] [] V X) (p : ∀ i, i < S.m → X 47 i = V 49 ((i + t) % S.m)) : mapC (srot S t) X ∧ ∀ i, i < S.m → X 49 i = S.y i := by
  obtain ⟨⟨a, c⟩, d, g⟩ := h
  rw [srot_m] at a d g
  refine ⟨⟨⟨by rw [srot_m, chg_k (c := 44) f rfl]; exact a, fun i hi => ?_⟩, ?_, ?_⟩, by rw [chg_k (c := 49) f rfl]; exact h9⟩
  · rw [srot_m] at hi
    have w := c i (by rw [srot_m]; exact hi)
    rw [chg_k (c := 45) f rfl, chg_k (c := 46) f rfl, chg_k (c := 48) f rfl]
    refine ⟨w.1, w.2.1, ?_, w.2.2.2⟩
    rw [p i hi, h9 _ (Nat.mod_lt _ (by omega))]
    rfl
  · rw [srot_m, chg_k (c := 46) f rfl, chg_k (c := 50) f rfl]; exact d
  · rw [srot_m, chg_k (c := 46) f rfl, chg_k (c := 50) f rfl, chg_k (c := 51) f rfl]; exact g
/-- so many of the seven turned ones are weaker -/
def weak (b : Bk) (k : Int) (S : Sp) (Ks : Nat → Kd) (kd : Nat) (n : Nat) : Nat := cntB (fun t => decide (bgK b k (srot S (t + 1)) Ks kd < bgK b k S Ks kd)) n
theorem srot_i {S : Sp} {V : VV} (h : mapC S V) : mapC (srot S 0) V := by
  obtain ⟨⟨a, c⟩, d, f⟩ := h
  refine ⟨⟨by rw [srot_m]; exact a, fun i hi => ?_⟩, by rw [srot_m]; exact d, by rw [srot_m]; exact f⟩
  rw [srot_m] at hi
  have w := c i hi
  refine ⟨w.1, w.2.1, ?_, w.2.2.2⟩
  show V 47 i = S.y ((i + 0) % S.m)
  rw [Nat.add_zero, Nat.mod_eq_of_lt hi]
  exact w.2.2.1
