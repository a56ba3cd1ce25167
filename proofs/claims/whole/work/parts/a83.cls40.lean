def frK (R R' : RR) : Prop := ∀ a i, ¬ (a = 52 ∧ i = 3) → R' a i = R a i
theorem frK_r {R : RR} : frK R R := fun _ _ _ => rfl
theorem frK_k {R Q : RR} {x : Option Nat} (e : Q = uR R 52 3 x) : frK R Q := by
  subst e
  intro a i h
  unfold uR
  rw [if_neg h]
theorem rwI_f {R Q : RR} {ρ : Nat → Nat} (h : rwI R ρ) (f : frK R Q) : rwI Q ρ := ⟨fun i hi => by rw [f 57 i (fun z => absurd z.1 (by decide))]; exact h.1 i hi, h.2⟩
def PQK (A : List (Nat × Nat)) (F : List (Nat × Nat × Nat)) (V : VV) (R : RR) (P : Option AV → VV → RR → Prop) : Option AV → VV → RR → Prop := fun r V' R' => FinR R' ∧ frK R R' ∧ Bd V' ∧ chg A F V V' ∧ P r V' R'
set_option maxHeartbeats 1000000 in
set_option maxRecDepth 100000 in
theorem R_X1_seekT {G : GG} {V : VV} {R : RR}  {b : Bk} {k : Int} {S : Sp} {Ks : Nat → Kd} {ka kd N : Nat} {l : Nat → Nat → Int} (hB : Bd V) (hF : FinR R) (bCV : bC b V) (ho : bO b) (hka : R 52 3 = some ka) (hla : lay ka = (1, 20)) (hba : arB ka = some (-1, 500)) (h19 : 19 ≤ ka ∧ ka ≤ 23) (kCV : kC (Ks kd) ka V) (ko : kO (Ks kd)) (mCV : mapC S V) (so : sO S) (hwk : V 52 2 = k) (hk : 0 ≤ k ∧ k ≤ 400) (hkd : kd < 5) : Runs G M_X1_seek 8 162 162 [vr 52, vi (kd:Int), vn] V R (PQ [(53, 54)] [(52, 5, 5), (52, 7, 7), (52, 9, 15), (55, 0, 18)] V R (fun o X => o = some (vi (goP b k S Ks kd false (false, 0, N, l) S.m).2.1) ∧ X 52 15 = (goP b k S Ks kd false (false, 0, N, l) S.m).2.1)) := by
  refine Runs.of pn_X1 (Nat.le_of_ble_eq_true rfl) rfl ?_
  show TT G M_X1_seek (rmd 8 162 162) 162 (Zm G 162 162 (PQ [(53, 54)] [(52, 5, 5), (52, 7, 7), (52, 9, 15), (55, 0, 18)] V R (fun o X => o = some (vi (goP b k S Ks kd false (false, 0, N, l) S.m).2.1) ∧ X 52 15 = (goP b k S Ks kd false (false, 0, N, l) S.m).2.1))) 162 0 [(0, vr 52), (1, vi (kd:Int)), (2, vn)] [] V R
  have fV : chg [(53, 54)] [(52, 5, 5), (52, 7, 7), (52, 9, 15), (55, 0, 18)] V V := chg_r
  have hM4 := so.1
  have hcm := cntB_le (p := (crn S (Ks kd))) (n := S.m)
  have ko1 := ko
  obtain ⟨kb0, kb1, kb2, kb3, kb4, kb5, kb6, kb7, kb8, kb9⟩ := ko1
  obtain ⟨ro, hro⟩ : ∃ ro : Nat, (Ks kd).l 0 = (ro : Int) := ⟨((Ks kd).l 0).toNat, by omega⟩
  refine T_al d_X1_seek_0 rfl ?_
  refine T_k d_X1_seek_1 ?_
  refine F_pz d_X1_seek_2 rfl hB rfl ⟨by omega, by omega⟩ (fun V_1 eV_1 hBV_1 => ?_)
  have fV_1 := chg_u eV_1 rfl fV
  have bCV_1 := bC_c bCV fV_1 rfl
  have kCV_1 := kC_c kCV h19 fV_1 rfl
  have mCV_1 := mapC_c mCV fV_1 rfl
  refine T_al d_X1_seek_5 rfl ?_
  refine T_k d_X1_seek_6 ?_
  refine F_pi d_X1_seek_7 rfl hBV_1 rfl ⟨by omega, by omega⟩ (fun V_2 eV_2 hBV_2 => ?_)
  have fV_2 := chg_u eV_2 rfl fV_1
  have bCV_2 := bC_c bCV fV_2 rfl
  have kCV_2 := kC_c kCV h19 fV_2 rfl
  have mCV_2 := mapC_c mCV fV_2 rfl
  refine T_al d_X1_seek_10 rfl ?_
  refine T_gr uws_ok d_X1_seek_11 rfl (lay_lc rfl (by decide)) hka ?_
  refine T_nnul d_X1_seek_14 (fun a14 h14 => ?_) (fun h14 => by cases h14)
  refine T_al d_X1_seek_19 rfl ?_
  refine F_gr (b := 55) d_X1_seek_20 rfl hF rfl ?_
  refine T_il d_X1_seek_23 rfl ?_
  refine F_pi d_X1_seek_24 rfl hBV_2 rfl ⟨by omega, by omega⟩ (fun V_3 eV_3 hBV_3 => ?_)
  have fV_3 := chg_u eV_3 rfl fV_2
  have bCV_3 := bC_c bCV fV_3 rfl
  have kCV_3 := kC_c kCV h19 fV_3 rfl
  have mCV_3 := mapC_c mCV fV_3 rfl
  refine T_al d_X1_seek_27 rfl ?_
  refine F_gr (b := 55) d_X1_seek_28 rfl hF rfl ?_
  have kl0 : V_3 ka (0 : Int).toNat = (Ks kd).l 0 := (kCV_3 0 (by omega)).1
  refine T_al d_X1_seek_31 rfl ?_
  refine T_gr uws_ok d_X1_seek_32 rfl (lay_lc rfl (by decide)) hka ?_
  refine T_k d_X1_seek_35 ?_
  refine F_ia d_X1_seek_36 hla hBV_3 hba ⟨by omega, by omega⟩ (fun b_4 => ?_)
  try simp only [Int.toNat_natCast, kl0]
  try simp only [Int.toNat_natCast, kl0] at b_4
  refine F_pi d_X1_seek_37 rfl hBV_3 rfl ⟨by omega, by omega⟩ (fun V_5 eV_5 hBV_5 => ?_)
  have fV_5 := chg_u eV_5 rfl fV_3
  have bCV_5 := bC_c bCV fV_5 rfl
  have kCV_5 := kC_c kCV h19 fV_5 rfl
  have mCV_5 := mapC_c mCV fV_5 rfl
  refine T_al d_X1_seek_40 rfl ?_
  refine F_gr (b := 55) d_X1_seek_41 rfl hF rfl ?_
  have kl8 : V_5 ka (8 : Int).toNat = (Ks kd).l 8 := (kCV_5 8 (by omega)).1
  refine T_al d_X1_seek_44 rfl ?_
  refine T_gr uws_ok d_X1_seek_45 rfl (lay_lc rfl (by decide)) hka ?_
  refine T_k d_X1_seek_48 ?_
  refine F_ia d_X1_seek_50 hla hBV_5 hba ⟨by omega, by omega⟩ (fun b_6 => ?_)
  try simp only [Int.toNat_natCast, kl8]
  try simp only [Int.toNat_natCast, kl8] at b_6
  refine F_pi d_X1_seek_51 rfl hBV_5 rfl ⟨by omega, by omega⟩ (fun V_7 eV_7 hBV_7 => ?_)
  have fV_7 := chg_u eV_7 rfl fV_5
  have bCV_7 := bC_c bCV fV_7 rfl
  have kCV_7 := kC_c kCV h19 fV_7 rfl
  have mCV_7 := mapC_c mCV fV_7 rfl
  have b54 : tbC (Ks kd) kd V_7 := ⟨by rw [eV_7, eV_5, eV_3]; rfl, by rw [eV_7, eV_5]; rfl, by rw [eV_7]; rfl⟩
  have g54 : gsC S Ks false (false, 0, N, l) V_7 R := ⟨by rw [eV_7, eV_5, eV_3, eV_2, eV_1]; rfl, by rw [eV_7, eV_5, eV_3, eV_2]; rfl, fun y => by cases y⟩
  refine T_al d_X1_seek_54 rfl ?_
  refine C_v0 d_X1_seek_55 rfl (hdF (by decide)) (hcF _) (R_X1_nameCorners (S := S) hBV_7 hF hka hla hba h19 kCV_7 ko mCV_7 so) (fun r_8 V_9 R_10 qV_9 => ?_)
  obtain ⟨rfl, hBV_9, cV_9, rfl, pV_9⟩ := qV_9
  have fV_9 := chg_t (A := [(53, 54)]) (F := [(52, 5, 5), (52, 7, 7), (52, 9, 15), (55, 0, 18)]) fV_7 cV_9 rfl
  have bCV_9 := bC_c bCV fV_9 rfl
  have kCV_9 := kC_c kCV h19 fV_9 rfl
  have mCV_9 := mapC_c mCV fV_9 rfl
  have b58 : tbC (Ks kd) kd V_9 := by unfold tbC; rw [chg_k (c := 55) cV_9 rfl]; exact b54
  have g58 := gsC_c g54 cV_9 rfl
  have c58 : cnC S (Ks kd) V_9 := pV_9
  refine T_k d_X1_seek_58 ?_
  refine T_is d_X1_seek_59 (ls' := [(0, vr 52), (1, vi (kd:Int)), (2, vn), (3, vi 0)]) rfl ?_
  -- to 60 @60
  have L60 : ∀ (fu : Nat) (X : VV) (a ep : Nat), cntB (crn S (Ks kd)) S.m - a < fu → (Bd X) → (chg [(53, 54)] [(52, 5, 5), (52, 7, 7), (52, 9, 15), (55, 0, 18)] V X) → (a ≤ cntB (crn S (Ks kd)) S.m) → (ep ≤ S.m ∧ cntB (crn S (Ks kd)) ep = a) → (cnC S (Ks kd) X) → (tbC (Ks kd) kd X) → (gsC S Ks false (goP b k S Ks kd false (false, 0, N, l) ep) X R) → TT G M_X1_seek (rmd 8 162 162) 162 (Zm G 162 162 (PQ [(53, 54)] [(52, 5, 5), (52, 7, 7), (52, 9, 15), (55, 0, 18)] V R (fun o X => o = some (vi (goP b k S Ks kd false (false, 0, N, l) S.m).2.1) ∧ X 52 15 = (goP b k S Ks kd false (false, 0, N, l) S.m).2.1))) 162 60 [(0, vr 52), (1, vi (kd:Int)), (2, vn), (3, vi (a : Int))] [] X R := by
    intro fu
    induction fu with
    | zero => intro X a ep hm; exact absurd hm (Nat.not_lt_zero _)
    | succ fu ih60 =>
      intro X a ep hm60 hBX fX ha hep cX bX gs
      have bCX := bC_c bCV fX rfl
      have kCX := kC_c kCV h19 fX rfl
      have mCX := mapC_c mCV fX rfl
      have x5 := cX.1
      refine T_il d_X1_seek_60 rfl ?_
      refine T_al d_X1_seek_61 rfl ?_
      refine F_gi d_X1_seek_62 rfl hBX rfl (fun b_11 => ?_)
      refine T_ige d_X1_seek_65 ⟨by omega, by omega⟩ ⟨by omega, by omega⟩ (fun h65 => ?_) (fun h65 => ?_)
      · skip
        refine T_al d_X1_seek_203 rfl ?_
        refine F_gi d_X1_seek_204 rfl hBX rfl (fun b_12 => ?_)
        -- leaf 65t@207
        refine T_iret d_X1_seek_207 rfl ?_
        have ge : (goP b k S Ks kd false (false, 0, N, l) S.m) = (goP b k S Ks kd false (false, 0, N, l) ep) := goP_gp hep.1 (fun p2 st h1 h2 => goQ_no ko hM4 (no_btw hep.1 (by omega) p2 h1 h2))
        exact ⟨rfl, hBX, fX, by rw [ge, gs.2.1], by rw [ge]; exact gs.2.1⟩
      · skip
        obtain ⟨p, hpd⟩ : ∃ p, nthB (crn S (Ks kd)) S.m a = p := ⟨_, rfl⟩
        have pok := nth_ok (p := (crn S (Ks kd))) (n := S.m) (i := a) (by omega)
        rw [hpd] at pok
        have x53 : X 53 a = (p : Int) := by rw [cX.2 a (by omega), hpd]
        have hpe : ep ≤ p := Nat.not_lt.mp (fun w => by have w2 := cnt_lt w pok.2.1; omega)
        have hgp : (goP b k S Ks kd false (false, 0, N, l) p) = (goP b k S Ks kd false (false, 0, N, l) ep) := goP_gp hpe (fun p2 st h1 h2 => goQ_no ko hM4 (no_btw hpe (hep.2.trans pok.2.2.symm) p2 h1 h2))
        refine T_al d_X1_seek_68 rfl ?_
        refine F_gr (b := 53) d_X1_seek_69 rfl hF rfl ?_
        refine T_il d_X1_seek_72 rfl ?_
        refine F_ia d_X1_seek_73 rfl hBX rfl ⟨by omega, by omega⟩ (fun b_13 => ?_)
        try simp only [Int.toNat_natCast, x53]
        try simp only [Int.toNat_natCast, x53] at b_13
        refine F_isg d_X1_seek_74 (f := fun x_14 => [(0, vr 52), (1, vi (kd:Int)), (2, vn), (3, vi (a : Int)), (4, vi x_14)]) (fun _ => rfl) (fun x_14 ex_14 => ?_)
        have e4 := ex_14
        subst e4
        refine T_al d_X1_seek_76 rfl ?_
        refine T_il d_X1_seek_77 rfl ?_
        refine C_v1 d_X1_seek_79 rfl (hdF (by decide)) (hcF _) (R_X1_nameThirds (S := S) hBX hF (show R 52 3 = some ka from hka) hla hba h19 kCX ko mCX so pok.1 cX.1 cX.2) (fun r_15 V_16 R_17 qV_16 => ?_)
        obtain ⟨rfl, hBV_16, cV_16, rfl, pV_16⟩ := qV_16
        have fV_16 := chg_t (A := [(53, 54)]) (F := [(52, 5, 5), (52, 7, 7), (52, 9, 15), (55, 0, 18)]) fX cV_16 rfl
        have bCV_16 := bC_c bCV fV_16 rfl
        have kCV_16 := kC_c kCV h19 fV_16 rfl
        have mCV_16 := mapC_c mCV fV_16 rfl
        have k82 := car1 cV_16 cX bX
        have g82 := gsC_c gs cV_16 rfl
        rw [← hgp] at g82
        have t82 : tdC S (Ks kd) p V_16 := pV_16
        refine T_k d_X1_seek_82 ?_
        refine T_is d_X1_seek_83 (ls' := [(0, vr 52), (1, vi (kd:Int)), (2, vn), (3, vi (a : Int)), (4, vi (p : Int)), (5, vi 0)]) rfl ?_
        -- to 85 65f@85
        have L85 : ∀ (fu : Nat) (Y : VV) (bb ew : Nat), cntB (crn S (Ks kd)) S.m - bb < fu → (Bd Y) → (chg [(53, 54)] [(52, 5, 5), (52, 7, 7), (52, 9, 15), (55, 0, 18)] V Y) → (bb ≤ cntB (crn S (Ks kd)) S.m) → (ew ≤ S.m ∧ cntB (crn S (Ks kd)) ew = bb) → (cnC S (Ks kd) Y) → (tbC (Ks kd) kd Y) → (tdC S (Ks kd) p Y) → (gsC S Ks false (goQ b k S Ks kd false (goP b k S Ks kd false (false, 0, N, l) p) p ew) Y R) → TT G M_X1_seek (rmd 8 162 162) 162 (Zm G 162 162 (PQ [(53, 54)] [(52, 5, 5), (52, 7, 7), (52, 9, 15), (55, 0, 18)] V R (fun o X => o = some (vi (goP b k S Ks kd false (false, 0, N, l) S.m).2.1) ∧ X 52 15 = (goP b k S Ks kd false (false, 0, N, l) S.m).2.1))) 162 85 [(0, vr 52), (1, vi (kd:Int)), (2, vn), (3, vi (a : Int)), (4, vi (p : Int)), (5, vi (bb : Int))] [] Y R := by
          intro fu
          induction fu with
          | zero => intro Y bb ew hm; exact absurd hm (Nat.not_lt_zero _)
          | succ fu ih85 =>
            intro Y bb ew hm85 hBY fY hb hew cY bY tY gsq
            have bCY := bC_c bCV fY rfl
            have kCY := kC_c kCV h19 fY rfl
            have mCY := mapC_c mCV fY rfl
            have y5 := cY.1
            refine T_il d_X1_seek_85 rfl ?_
            refine T_al d_X1_seek_87 rfl ?_
            refine F_gi d_X1_seek_88 rfl hBY rfl (fun b_18 => ?_)
            refine T_ige d_X1_seek_91 ⟨by omega, by omega⟩ ⟨by omega, by omega⟩ (fun h91 => ?_) (fun h91 => ?_)
            · skip
              refine F_incg d_X1_seek_197 rfl (f := fun x_19 => [(0, vr 52), (1, vi (kd:Int)), (2, vn), (3, vi x_19), (4, vi (p : Int)), (5, vi (bb : Int))]) (fun _ => rfl) (fun x_19 ex_19 => ?_)
              refine T_go d_X1_seek_200 ?_
              -- to 60 91t@60
              refine T_subp (ks := [0, 1, 2, 3]) (ls' := [(0, vr 52), (1, vi (kd:Int)), (2, vn), (3, vi x_19)]) rfl ?_
              have ge : (goQ b k S Ks kd false (goP b k S Ks kd false (false, 0, N, l) p) p S.m) = (goQ b k S Ks kd false (goP b k S Ks kd false (false, 0, N, l) p) p ew) := goQ_gp hew.1 (fun q2 st h1 h2 => goR_no ko hM4 (fun y => no_btw hew.1 (by omega) q2 h1 h2 y.2.1))
              obtain rfl : x_19 = ((a + 1) : Int) := by omega
              exact ih60 Y (a + 1) (p + 1) (by omega) hBY fY (by omega) ⟨by omega, by rw [cntB_t pok.2.1, pok.2.2]⟩ cY bY (by show gsC S Ks false (goQ b k S Ks kd false (goP b k S Ks kd false (false, 0, N, l) p) p S.m) _ _; rw [ge]; exact gsq)
            · skip
              obtain ⟨q, hqd⟩ : ∃ q, nthB (crn S (Ks kd)) S.m bb = q := ⟨_, rfl⟩
              have qok := nth_ok (p := (crn S (Ks kd))) (n := S.m) (i := bb) (by omega)
              rw [hqd] at qok
              have x53q : Y 53 bb = (q : Int) := by rw [cY.2 bb (by omega), hqd]
              have hqe : ew ≤ q := Nat.not_lt.mp (fun w => by have w2 := cnt_lt w qok.2.1; omega)
              have hgq : (goQ b k S Ks kd false (goP b k S Ks kd false (false, 0, N, l) p) p q) = (goQ b k S Ks kd false (goP b k S Ks kd false (false, 0, N, l) p) p ew) := goQ_gp hqe (fun q2 st h1 h2 => goR_no ko hM4 (fun y => no_btw hqe (hew.2.trans qok.2.2.symm) q2 h1 h2 y.2.1))
              refine T_al d_X1_seek_94 rfl ?_
              refine F_gr (b := 53) d_X1_seek_95 rfl hF rfl ?_
              refine T_il d_X1_seek_98 rfl ?_
              refine F_ia d_X1_seek_100 rfl hBY rfl ⟨by omega, by omega⟩ (fun b_20 => ?_)
              try simp only [Int.toNat_natCast, x53q]
              try simp only [Int.toNat_natCast, x53q] at b_20
              refine F_isg d_X1_seek_101 (f := fun x_21 => [(0, vr 52), (1, vi (kd:Int)), (2, vn), (3, vi (a : Int)), (4, vi (p : Int)), (5, vi (bb : Int)), (6, vi x_21)]) (fun _ => rfl) (fun x_21 ex_21 => ?_)
              have e6 := ex_21
              subst e6
              refine T_il d_X1_seek_103 rfl ?_
              have L131 : ∀ (fu : Nat) (Z : VV) (g7 : Int) (c er : Nat), cntB (thd S (Ks kd) p) S.m - c < fu → (Bd Z) → (chg [(53, 54)] [(52, 5, 5), (52, 7, 7), (52, 9, 15), (55, 0, 18)] V Z) → (c ≤ cntB (thd S (Ks kd) p) S.m) → (er ≤ S.m ∧ cntB (thd S (Ks kd) p) er = c) → ((g7 = 0 ∧ ¬ (p ≠ q ∧ stpP S (Ks kd) p q)) ∨ (g7 = 1 ∧ p ≠ q ∧ stpP S (Ks kd) p q ∧ tsC S p q Z)) → (cnC S (Ks kd) Z) → (tbC (Ks kd) kd Z) → (tdC S (Ks kd) p Z) → (gsC S Ks false (goR b k S Ks kd false (goQ b k S Ks kd false (goP b k S Ks kd false (false, 0, N, l) p) p q) p q er) Z R) → TT G M_X1_seek (rmd 8 162 162) 162 (Zm G 162 162 (PQ [(53, 54)] [(52, 5, 5), (52, 7, 7), (52, 9, 15), (55, 0, 18)] V R (fun o X => o = some (vi (goP b k S Ks kd false (false, 0, N, l) S.m).2.1) ∧ X 52 15 = (goP b k S Ks kd false (false, 0, N, l) S.m).2.1))) 162 131 [(0, vr 52), (1, vi (kd:Int)), (2, vn), (3, vi (a : Int)), (4, vi (p : Int)), (5, vi (bb : Int)), (6, vi (q : Int)), (7, vi g7), (8, vi (c : Int))] [] Z R := by
                intro fu
                induction fu with
                | zero => intro Z g7 c er hm; exact absurd hm (Nat.not_lt_zero _)
                | succ fu ih131 =>
                  intro Z g7 c er hm131 hBZ fZ hc her hg cZ bZ tZ gsr
                  have bCZ := bC_c bCV fZ rfl
                  have kCZ := kC_c kCV h19 fZ rfl
                  have mCZ := mapC_c mCV fZ rfl
                  have z7 := tZ.1
                  have htm := cntB_le (p := (thd S (Ks kd) p)) (n := S.m)
                  have hg01 : 0 ≤ g7 ∧ g7 ≤ 1 := by rcases hg with y | y; (have := y.1; omega); (have := y.1; omega)
                  refine T_il d_X1_seek_131 rfl ?_
                  refine T_zeq d_X1_seek_133 ⟨by omega, by omega⟩ (fun h133 => ?_) (fun h133 => ?_)
                  · skip
                    refine F_incg d_X1_seek_191 rfl (f := fun x_22 => [(0, vr 52), (1, vi (kd:Int)), (2, vn), (3, vi (a : Int)), (4, vi (p : Int)), (5, vi x_22), (6, vi (q : Int)), (7, vi g7), (8, vi (c : Int))]) (fun _ => rfl) (fun x_22 ex_22 => ?_)
                    refine T_go d_X1_seek_194 ?_
                    -- to 85 133t@85
                    refine T_subp (ks := [0, 1, 2, 3, 4, 5]) (ls' := [(0, vr 52), (1, vi (kd:Int)), (2, vn), (3, vi (a : Int)), (4, vi (p : Int)), (5, vi x_22)]) rfl ?_
                    have hg0 := (hg.resolve_right (fun y => by have := y.1; omega)).2
                    clear hg
                    have gn : ∀ n, (goR b k S Ks kd false (goQ b k S Ks kd false (goP b k S Ks kd false (false, 0, N, l) p) p q) p q n) = (goQ b k S Ks kd false (goP b k S Ks kd false (false, 0, N, l) p) p q) := fun n => goR_no ko hM4 (fun y => hg0 ⟨y.2.2.1, y.2.2.2⟩)
                    obtain rfl : x_22 = ((bb + 1) : Int) := by omega
                    exact ih85 Z (bb + 1) (q + 1) (by omega) hBZ fZ (by omega) ⟨by omega, by rw [cntB_t qok.2.1, qok.2.2]⟩ cZ bZ tZ (by show gsC S Ks false (goR b k S Ks kd false (goQ b k S Ks kd false (goP b k S Ks kd false (false, 0, N, l) p) p q) p q S.m) _ _; rw [gn S.m, ← gn er]; exact gsr)
                  · skip
                    refine T_il d_X1_seek_136 rfl ?_
                    refine T_al d_X1_seek_138 rfl ?_
                    refine F_gi d_X1_seek_139 rfl hBZ rfl (fun b_23 => ?_)
                    refine T_ige d_X1_seek_142 ⟨by omega, by omega⟩ ⟨by omega, by omega⟩ (fun h142 => ?_) (fun h142 => ?_)
                    · skip
                      refine F_incg d_X1_seek_191 rfl (f := fun x_24 => [(0, vr 52), (1, vi (kd:Int)), (2, vn), (3, vi (a : Int)), (4, vi (p : Int)), (5, vi x_24), (6, vi (q : Int)), (7, vi g7), (8, vi (c : Int))]) (fun _ => rfl) (fun x_24 ex_24 => ?_)
                      refine T_go d_X1_seek_194 ?_
                      -- to 85 133f.142t@85
                      refine T_subp (ks := [0, 1, 2, 3, 4, 5]) (ls' := [(0, vr 52), (1, vi (kd:Int)), (2, vn), (3, vi (a : Int)), (4, vi (p : Int)), (5, vi x_24)]) rfl ?_
                      clear hg
                      have gn : (goR b k S Ks kd false (goQ b k S Ks kd false (goP b k S Ks kd false (false, 0, N, l) p) p q) p q S.m) = (goR b k S Ks kd false (goQ b k S Ks kd false (goP b k S Ks kd false (false, 0, N, l) p) p q) p q er) := goR_gp her.1 (fun r2 st h1 h2 => stp_id (Classical.byContradiction fun y => no_btw (f := thd S (Ks kd) p) her.1 (by omega) r2 h1 h2 (by have y2 : frO b k S (Ks kd) p q r2 ≠ 0 := fun w => y (Or.inr (Or.inr (Or.inr w))); have cc := fr_cr ko hM4 y2; exact decide_eq_true ⟨cc.2.2.2, fun w => y (Or.inr (Or.inl w.symm)), cc.1.2.1⟩)))
                      obtain rfl : x_24 = ((bb + 1) : Int) := by omega
                      exact ih85 Z (bb + 1) (q + 1) (by omega) hBZ fZ (by omega) ⟨by omega, by rw [cntB_t qok.2.1, qok.2.2]⟩ cZ bZ tZ (by show gsC S Ks false (goR b k S Ks kd false (goQ b k S Ks kd false (goP b k S Ks kd false (false, 0, N, l) p) p q) p q S.m) _ _; rw [gn]; exact gsr)
                    · skip
                      have hg1 := hg.resolve_left (fun y => by have := y.1; omega)
                      clear hg
                      obtain ⟨r, hrd⟩ : ∃ r, nthB (thd S (Ks kd) p) S.m c = r := ⟨_, rfl⟩
                      have rok := nth_ok (p := (thd S (Ks kd) p)) (n := S.m) (i := c) (by omega)
                      rw [hrd] at rok
                      have x54 : Z 54 c = (r : Int) := by rw [tZ.2 c (by omega), hrd]
                      have hre : er ≤ r := Nat.not_lt.mp (fun w => by have w2 := cnt_lt w rok.2.1; omega)
                      have rtd := of_decide_eq_true rok.2.1
                      have hgr : (goR b k S Ks kd false (goQ b k S Ks kd false (goP b k S Ks kd false (false, 0, N, l) p) p q) p q r) = (goR b k S Ks kd false (goQ b k S Ks kd false (goP b k S Ks kd false (false, 0, N, l) p) p q) p q er) := goR_gp hre (fun r2 st h1 h2 => stp_id (Classical.byContradiction fun y => no_btw hre (her.2.trans rok.2.2.symm) r2 h1 h2 (by have y2 : frO b k S (Ks kd) p q r2 ≠ 0 := fun w => y (Or.inr (Or.inr (Or.inr w))); have cc := fr_cr ko hM4 y2; exact decide_eq_true ⟨cc.2.2.2, fun w => y (Or.inr (Or.inl w.symm)), cc.1.2.1⟩)))
                      refine T_al d_X1_seek_145 rfl ?_
                      refine F_gr (b := 54) d_X1_seek_146 rfl hF rfl ?_
                      refine T_il d_X1_seek_149 rfl ?_
                      refine F_ia d_X1_seek_151 rfl hBZ rfl ⟨by omega, by omega⟩ (fun b_25 => ?_)
                      try simp only [Int.toNat_natCast, x54]
                      try simp only [Int.toNat_natCast, x54] at b_25
                      refine T_il d_X1_seek_152 rfl ?_
                      refine T_ieq d_X1_seek_154 ⟨by omega, by omega⟩ ⟨by omega, by omega⟩ (fun h154 => ?_) (fun h154 => ?_)
                      · skip
                        refine F_incg d_X1_seek_185 rfl (f := fun x_26 => [(0, vr 52), (1, vi (kd:Int)), (2, vn), (3, vi (a : Int)), (4, vi (p : Int)), (5, vi (bb : Int)), (6, vi (q : Int)), (7, vi g7), (8, vi x_26)]) (fun _ => rfl) (fun x_26 ex_26 => ?_)
                        refine T_go d_X1_seek_188 ?_
                        -- to 131 133f.142f.154t@131
                        obtain rfl : x_26 = ((c + 1) : Int) := by omega
                        exact ih131 Z (g7) (c + 1) (r + 1) (by omega) hBZ fZ (by omega) ⟨by omega, by rw [cntB_t rok.2.1, rok.2.2]⟩ (Or.inr ⟨hg1.1, hg1.2.1, hg1.2.2.1, hg1.2.2.2⟩) cZ bZ tZ (by show gsC S Ks false (stpG b k S Ks kd false (goR b k S Ks kd false (goQ b k S Ks kd false (goP b k S Ks kd false (false, 0, N, l) p) p q) p q r) p q r) _ _; rw [stp_id (by omega), hgr]; exact gsr)
                      · skip
                        refine T_al d_X1_seek_157 rfl ?_
                        refine T_il d_X1_seek_158 rfl ?_
                        refine T_al d_X1_seek_160 rfl ?_
                        refine F_gr (b := 54) d_X1_seek_161 rfl hF rfl ?_
                        refine T_il d_X1_seek_164 rfl ?_
                        refine F_ia d_X1_seek_166 rfl hBZ rfl ⟨by omega, by omega⟩ (fun b_27 => ?_)
                        try simp only [Int.toNat_natCast, x54]
                        try simp only [Int.toNat_natCast, x54] at b_27
                        refine C_v2 d_X1_seek_167 rfl (hdF (by decide)) (hcF _) (R_X1_setApart (S := S) (q := q) hBZ hF (show R 52 3 = some ka from hka) hla hba h19 kCZ ko mCZ so pok.1 qok.1 rok.1 hg1.2.2.2.2.2.2.2.1 hg1.2.2.2.2.2.2.2.2 hg1.2.2.1 rtd.2.2) (fun r_28 V_29 R_30 qV_29 => ?_)
                        obtain ⟨rfl, hBV_29, cV_29, rfl, pV_29⟩ := qV_29
                        have fV_29 := chg_t (A := [(53, 54)]) (F := [(52, 5, 5), (52, 7, 7), (52, 9, 15), (55, 0, 18)]) fZ cV_29 rfl
                        have bCV_29 := bC_c bCV fV_29 rfl
                        have kCV_29 := kC_c kCV h19 fV_29 rfl
                        have mCV_29 := mapC_c mCV fV_29 rfl
                        have c170 := cV_29
                        have p170 := pV_29
                        have g170 := gsC_c gsr cV_29 rfl
                        refine T_pz0 d_X1_seek_170 (fun h170 => ?_) (fun h170 => ?_)
                        · skip
                          refine F_incg d_X1_seek_185 rfl (f := fun x_31 => [(0, vr 52), (1, vi (kd:Int)), (2, vn), (3, vi (a : Int)), (4, vi (p : Int)), (5, vi (bb : Int)), (6, vi (q : Int)), (7, vi g7), (8, vi x_31)]) (fun _ => rfl) (fun x_31 ex_31 => ?_)
                          refine T_go d_X1_seek_188 ?_
                          -- to 131 133f.142f.154f.170t@131
                          have f3 := (chg_s (A := [(60, 84)]) (F := [(52, 9, 15), (55, 3, 3), (55, 8, 9), (55, 12, 18), (56, 1, 1)]) c170 rfl)
                          have c3 := car3 f3 cZ bZ tZ hg1.2.2.2
                          have h0 : frO b k S (Ks kd) p q r = 0 := Classical.byContradiction fun y => h170 (fr_cr ko hM4 y).1.2.2
                          obtain rfl : x_31 = ((c + 1) : Int) := by omega
                          exact ih131 V_29 (g7) (c + 1) (r + 1) (by omega) hBV_29 fV_29 (by omega) ⟨by omega, by rw [cntB_t rok.2.1, rok.2.2]⟩ (Or.inr ⟨hg1.1, hg1.2.1, hg1.2.2.1, c3.2.2⟩) c3.1.1 c3.1.2 c3.2.1 (by show gsC S Ks false (stpG b k S Ks kd false (goR b k S Ks kd false (goQ b k S Ks kd false (goP b k S Ks kd false (false, 0, N, l) p) p q) p q r) p q r) _ _; rw [stp_id (Or.inr (Or.inr (Or.inr h0))), hgr]; exact g170)
                        · skip
                          have hdot := h170
                          have hft : frO b k S (Ks kd) p q r = tkF b k S (Ks kd) p q r ((Ks kd).l 1).toNat ((Ks kd).h 1).toNat := by rw [fr_tk ko hM4, if_pos ⟨⟨hg1.2.2.1, rtd.2.2, hdot⟩, pok.2.1, qok.2.1, rtd.1⟩]
                          refine T_al d_X1_seek_173 rfl ?_
                          refine C_v0 d_X1_seek_174 rfl (hdF (by decide)) (hcF _) (R_X1_grow (b := b) (k := k) (S := S) (ro := ro) (p := p) (q := q) (r := r) hBV_29 hF bCV_29 ho (show R 52 3 = some ka from hka) hla hba h19 kCV_29 ko mCV_29 so ((chg_j (c := 52) (j := 2) fV_29 rfl).trans hwk) hk pok.1 qok.1 rok.1 hro ⟨by rw [chg_j (c := 55) (j := 4) c170 rfl]; exact hg1.2.2.2.2.2.1, by rw [chg_j (c := 55) (j := 5) c170 rfl]; exact hg1.2.2.2.2.2.2.1, by rw [chg_j (c := 55) (j := 6) c170 rfl]; exact hg1.2.2.2.2.2.2.2.1, by rw [chg_j (c := 55) (j := 7) c170 rfl]; exact hg1.2.2.2.2.2.2.2.2, p170.2.1, p170.2.2, by rw [chg_j (c := 55) (j := 10) c170 rfl]; exact bZ.2.1⟩) (fun r_32 V_33 R_34 qV_33 => ?_)
                          obtain ⟨rfl, hBV_33, cV_33, rfl, pV_33⟩ := qV_33
                          have fV_33 := chg_t (A := [(53, 54)]) (F := [(52, 5, 5), (52, 7, 7), (52, 9, 15), (55, 0, 18)]) fV_29 cV_33 rfl
                          have bCV_33 := bC_c bCV fV_33 rfl
                          have kCV_33 := kC_c kCV h19 fV_33 rfl
                          have mCV_33 := mapC_c mCV fV_33 rfl
                          have c177 := cV_33
                          have p177 := pV_33
                          have g177 := gsC_c g170 cV_33 rfl
                          refine T_pz0 d_X1_seek_177 (fun h177 => ?_) (fun h177 => ?_)
                          · skip
                            refine F_incg d_X1_seek_185 rfl (f := fun x_35 => [(0, vr 52), (1, vi (kd:Int)), (2, vn), (3, vi (a : Int)), (4, vi (p : Int)), (5, vi (bb : Int)), (6, vi (q : Int)), (7, vi g7), (8, vi x_35)]) (fun _ => rfl) (fun x_35 ex_35 => ?_)
                            refine T_go d_X1_seek_188 ?_
                            -- to 131 133f.142f.154f.170f.177t@131
                            have f3 := chg_t (A := [(60, 84)]) (F := [(52, 9, 15), (55, 3, 3), (55, 8, 9), (55, 12, 18), (56, 1, 1)]) (chg_s c170 rfl) c177 rfl
                            have c3 := car3 f3 cZ bZ tZ hg1.2.2.2
                            have h0 : frO b k S (Ks kd) p q r = 0 := by rw [hft]; exact Classical.byContradiction fun y => h177 y
                            obtain rfl : x_35 = ((c + 1) : Int) := by omega
                            exact ih131 V_33 (g7) (c + 1) (r + 1) (by omega) hBV_33 fV_33 (by omega) ⟨by omega, by rw [cntB_t rok.2.1, rok.2.2]⟩ (Or.inr ⟨hg1.1, hg1.2.1, hg1.2.2.1, c3.2.2⟩) c3.1.1 c3.1.2 c3.2.1 (by show gsC S Ks false (stpG b k S Ks kd false (goR b k S Ks kd false (goQ b k S Ks kd false (goP b k S Ks kd false (false, 0, N, l) p) p q) p q r) p q r) _ _; rw [stp_id (Or.inr (Or.inr (Or.inr h0))), hgr]; exact g177)
                          · skip
                            have hn0 : frO b k S (Ks kd) p q r ≠ 0 := by rw [hft]; exact h177
                            have hpq3 : ¬ (p = q ∨ p = r ∨ q = r ∨ frO b k S (Ks kd) p q r = 0) := by have w1 := rtd.2.1; have w2 := hg1.2.1; omega
                            have f12 := chg_t (A := [(60, 84)]) (F := [(52, 9, 15), (55, 3, 3), (55, 8, 9), (55, 12, 18), (56, 1, 1)]) (chg_s c170 rfl) c177 rfl
                            have c12 := car3 f12 cZ bZ tZ hg1.2.2.2
                            have tho := tr_ho hM4 ko hft hn0 c12.1.2 c12.2.2 (by rw [chg_j (c := 55) (j := 3) c177 rfl]; exact p170.1) (by rw [chg_j (c := 55) (j := 8) c177 rfl]; exact p170.2.1) (by rw [chg_j (c := 55) (j := 9) c177 rfl]; exact p170.2.2) p177
                            refine T_al d_X1_seek_180 rfl ?_
                            refine T_al d_X1_seek_181 rfl ?_
                            refine C_v1 d_X1_seek_182 rfl (hdF (by decide)) (hcF _) (R_X1_noteN (S := S) (Ks := Ks) (e := recO b k S Ks kd p q r) (t := (goR b k S Ks kd false (goQ b k S Ks kd false (goP b k S Ks kd false (false, 0, N, l) p) p q) p q er).1) hBV_33 hF tho.1 tho.2 g177.1) (fun r_36 V_37 R_38 qV_37 => ?_)
                            obtain ⟨rfl, hBV_37, cV_37, rfl, pV_37⟩ := qV_37
                            have fV_37 := chg_t (A := [(53, 54)]) (F := [(52, 5, 5), (52, 7, 7), (52, 9, 15), (55, 0, 18)]) fV_33 cV_37 rfl
                            have bCV_37 := bC_c bCV fV_37 rfl
                            have kCV_37 := kC_c kCV h19 fV_37 rfl
                            have mCV_37 := mapC_c mCV fV_37 rfl
                            refine F_incg d_X1_seek_185 rfl (f := fun x_39 => [(0, vr 52), (1, vi (kd:Int)), (2, vn), (3, vi (a : Int)), (4, vi (p : Int)), (5, vi (bb : Int)), (6, vi (q : Int)), (7, vi g7), (8, vi x_39)]) (fun _ => rfl) (fun x_39 ex_39 => ?_)
                            refine T_go d_X1_seek_188 ?_
                            -- to 131 133f.142f.154f.170f.177f@131
                            have f3 := chg_t (A := [(60, 84)]) (F := [(52, 9, 15), (55, 3, 3), (55, 8, 9), (55, 12, 18), (56, 1, 1)]) (chg_t (A := [(60, 84)]) (F := [(52, 9, 15), (55, 3, 3), (55, 8, 9), (55, 12, 18), (56, 1, 1)]) (chg_s c170 rfl) c177 rfl) cV_37 rfl
                            have c3 := car3 f3 cZ bZ tZ hg1.2.2.2
                            obtain rfl : x_39 = ((c + 1) : Int) := by omega
                            exact ih131 V_37 (g7) (c + 1) (r + 1) (by omega) hBV_37 fV_37 (by omega) ⟨by omega, by rw [cntB_t rok.2.1, rok.2.2]⟩ (Or.inr ⟨hg1.1, hg1.2.1, hg1.2.2.1, c3.2.2⟩) c3.1.1 c3.1.2 c3.2.1 (by show gsC S Ks false (stpG b k S Ks kd false (goR b k S Ks kd false (goQ b k S Ks kd false (goP b k S Ks kd false (false, 0, N, l) p) p q) p q r) p q r) _ _; rw [hgr]; exact gsC_1 hpq3 pV_37.1 (by rw [pV_37.2, g177.2.1]) (fun y => by cases y))
              refine T_il d_X1_seek_105 rfl ?_
              refine T_ieq d_X1_seek_107 ⟨by omega, by omega⟩ ⟨by omega, by omega⟩ (fun h107 => ?_) (fun h107 => ?_)
              · skip
                refine T_k d_X1_seek_125 ?_
                refine T_is d_X1_seek_126 (ls' := [(0, vr 52), (1, vi (kd:Int)), (2, vn), (3, vi (a : Int)), (4, vi (p : Int)), (5, vi (bb : Int)), (6, vi (q : Int)), (7, vi 0)]) rfl ?_
                refine T_k d_X1_seek_128 ?_
                refine T_is d_X1_seek_129 (ls' := [(0, vr 52), (1, vi (kd:Int)), (2, vn), (3, vi (a : Int)), (4, vi (p : Int)), (5, vi (bb : Int)), (6, vi (q : Int)), (7, vi 0), (8, vi 0)]) rfl ?_
                -- to 131 91f.107t@131
                exact L131 _ Y 0 (0) (0) (Nat.lt_succ_self _) hBY fY (by first | assumption | omega) ⟨Nat.zero_le _, rfl⟩ (Or.inl ⟨rfl, fun y => y.1 (by omega)⟩) cY bY tY (by show gsC S Ks false (goQ b k S Ks kd false (goP b k S Ks kd false (false, 0, N, l) p) p q) _ _; rw [hgq]; exact gsq)
              · skip
                refine T_al d_X1_seek_110 rfl ?_
                refine T_il d_X1_seek_111 rfl ?_
                refine T_il d_X1_seek_113 rfl ?_
                refine C_v2 d_X1_seek_115 rfl (hdF (by decide)) (hcF _) (R_X1_setStep (S := S) hBY hF (show R 52 3 = some ka from hka) hla hba h19 kCY ko mCY so pok.1 qok.1) (fun r_40 V_41 R_42 qV_41 => ?_)
                obtain ⟨rfl, hBV_41, cV_41, rfl, pV_41⟩ := qV_41
                have fV_41 := chg_t (A := [(53, 54)]) (F := [(52, 5, 5), (52, 7, 7), (52, 9, 15), (55, 0, 18)]) fY cV_41 rfl
                have bCV_41 := bC_c bCV fV_41 rfl
                have kCV_41 := kC_c kCV h19 fV_41 rfl
                have mCV_41 := mapC_c mCV fV_41 rfl
                have k118 := car2 cV_41 cY bY tY
                have g118 := gsC_c gsq cV_41 rfl
                have s118 : tsC S p q V_41 := pV_41
                refine T_pz0 d_X1_seek_118 (fun h118 => ?_) (fun h118 => ?_)
                · skip
                  refine T_k d_X1_seek_125 ?_
                  refine T_is d_X1_seek_126 (ls' := [(0, vr 52), (1, vi (kd:Int)), (2, vn), (3, vi (a : Int)), (4, vi (p : Int)), (5, vi (bb : Int)), (6, vi (q : Int)), (7, vi 0)]) rfl ?_
                  refine T_k d_X1_seek_128 ?_
                  refine T_is d_X1_seek_129 (ls' := [(0, vr 52), (1, vi (kd:Int)), (2, vn), (3, vi (a : Int)), (4, vi (p : Int)), (5, vi (bb : Int)), (6, vi (q : Int)), (7, vi 0), (8, vi 0)]) rfl ?_
                  -- to 131 91f.107f.118t@131
                  exact L131 _ V_41 0 (0) (0) (Nat.lt_succ_self _) hBV_41 fV_41 (by first | assumption | omega) ⟨Nat.zero_le _, rfl⟩ (Or.inl ⟨rfl, fun y => h118 y.2⟩) k118.1 k118.2.1 k118.2.2 (by show gsC S Ks false (goQ b k S Ks kd false (goP b k S Ks kd false (false, 0, N, l) p) p q) _ _; rw [hgq]; exact g118)
                · skip
                  refine T_k d_X1_seek_121 ?_
                  refine T_go d_X1_seek_122 ?_
                  refine T_is d_X1_seek_126 (ls' := [(0, vr 52), (1, vi (kd:Int)), (2, vn), (3, vi (a : Int)), (4, vi (p : Int)), (5, vi (bb : Int)), (6, vi (q : Int)), (7, vi 1)]) rfl ?_
                  refine T_k d_X1_seek_128 ?_
                  refine T_is d_X1_seek_129 (ls' := [(0, vr 52), (1, vi (kd:Int)), (2, vn), (3, vi (a : Int)), (4, vi (p : Int)), (5, vi (bb : Int)), (6, vi (q : Int)), (7, vi 1), (8, vi 0)]) rfl ?_
                  -- to 131 91f.107f.118f@131
                  exact L131 _ V_41 1 (0) (0) (Nat.lt_succ_self _) hBV_41 fV_41 (by first | assumption | omega) ⟨Nat.zero_le _, rfl⟩ (Or.inr ⟨rfl, by omega, h118, s118⟩) k118.1 k118.2.1 k118.2.2 (by show gsC S Ks false (goQ b k S Ks kd false (goP b k S Ks kd false (false, 0, N, l) p) p q) _ _; rw [hgq]; exact g118)
        exact L85 _ V_16 (0) (0) (Nat.lt_succ_self _) hBV_16 fV_16 (by first | assumption | omega) ⟨Nat.zero_le _, rfl⟩ k82.1 k82.2 t82 g82
  exact L60 _ V_9 (0) (0) (Nat.lt_succ_self _) hBV_9 fV_9 (by first | assumption | omega) ⟨Nat.zero_le _, rfl⟩ c58 b58 g58
set_option maxHeartbeats 1000000 in
set_option maxRecDepth 100000 in
theorem R_X9_tryChanceT {G : GG} {V : VV} {R : RR}  {b : Bk} {k : Int} {S : Sp} {Ks : Nat → Kd} {kd : Nat} (hB : Bd V) (hF : FinR R) (bCV : bC b V) (ho : bO b) (mCV : mapC S V) (so : sO S) (hk : 0 ≤ k ∧ k ≤ 400) (h7 : V 30 7 = k) (hkd : kd < 5) (hT : kC (Ks kd) (19 + kd) V ∧ kO (Ks kd)) (h49 : ∀ i, i < S.m → V 49 i = S.y i) (h31 : V 31 kd = bgK b k S Ks kd) : Runs G M_X9_tryChance 9 162 162 [vr 30, vi (kd:Int)] V R (PQK [(53, 54), (47, 47)] [(52, 2, 2), (52, 5, 5), (52, 7, 7), (52, 9, 15), (55, 0, 18)] V R (fun o X R2 => o = some (vi ((weak b k S Ks kd 7) : Int)) ∧ mapC S X)) := by
  refine Runs.of pn_X9 (Nat.le_of_ble_eq_true rfl) rfl ?_
  show TT G M_X9_tryChance (rmd 9 162 162) 162 (Zm G 162 162 (PQK [(53, 54), (47, 47)] [(52, 2, 2), (52, 5, 5), (52, 7, 7), (52, 9, 15), (55, 0, 18)] V R (fun o X R2 => o = some (vi ((weak b k S Ks kd 7) : Int)) ∧ mapC S X))) 162 0 [(0, vr 30), (1, vi (kd:Int))] [] V R
  have fV : chg [(53, 54), (47, 47)] [(52, 2, 2), (52, 5, 5), (52, 7, 7), (52, 9, 15), (55, 0, 18)] V V := chg_r
  have tl := told_l hkd
  have hm4 := so.1
  refine T_k d_X9_tryChance_0 ?_
  refine T_is d_X9_tryChance_1 (ls' := [(0, vr 30), (1, vi (kd:Int)), (2, vi 0)]) rfl ?_
  refine T_al d_X9_tryChance_2 rfl ?_
  refine F_gr (b := 52) d_X9_tryChance_3 rfl hF rfl ?_
  refine T_al d_X9_tryChance_6 rfl ?_
  refine F_gr (b := 16) d_X9_tryChance_7 rfl hF rfl ?_
  refine F_gr (b := 18) d_X9_tryChance_10 rfl hF rfl ?_
  refine T_il d_X9_tryChance_13 rfl ?_
  refine F_aa2 d_X9_tryChance_14 rfl ⟨by omega, by omega⟩ ?_
  rw [show R 18 ((kd : Nat) : Int).toNat = some (19 + kd) from told_r hF hkd]
  refine T_al d_X9_tryChance_15 rfl ?_
  refine F_gi d_X9_tryChance_16 rfl hB rfl (fun b_1 => ?_)
  rw [h7]
  refine C_v2 d_X9_tryChance_19 rfl (hdF (by decide)) (hcF _) (R_X1_setKind (ka := 19 + kd) (k := k) hB hF hk) (fun r_2 V_3 R_4 qV_3 => ?_)
  obtain ⟨hFV_3, oV_3, hBV_3, cV_3, rfl, pV_3⟩ := qV_3
  have hF := hFV_3
  have fV_3 := chg_t (A := [(53, 54), (47, 47)]) (F := [(52, 2, 2), (52, 5, 5), (52, 7, 7), (52, 9, 15), (55, 0, 18)]) fV cV_3 rfl
  have bCV_3 := bC_c bCV fV_3 rfl
  have pK := pV_3
  have oK := oV_3
  have cK := cV_3
  have hkq : R_4 52 3 = some (19 + kd) := by rw [pK.2]; exact if_pos ⟨rfl, rfl⟩
  refine T_k d_X9_tryChance_22 ?_
  refine T_is d_X9_tryChance_23 (ls' := [(0, vr 30), (1, vi (kd:Int)), (2, vi 0), (3, vi 1)]) rfl ?_
  -- to 24 @24
  have L24 : ∀ (fu : Nat) (X : VV) (w t s : Nat), 7 - t < fu → (Bd X) → (chg [(53, 54), (47, 47)] [(52, 2, 2), (52, 5, 5), (52, 7, 7), (52, 9, 15), (55, 0, 18)] V X) → (t ≤ 7) → (w = (weak b k S Ks kd t)) → (mapC (srot S s) X) → (∀ i, i < S.m → X 49 i = S.y i) → (X 52 2 = k) → TT G M_X9_tryChance (rmd 9 162 162) 162 (Zm G 162 162 (PQK [(53, 54), (47, 47)] [(52, 2, 2), (52, 5, 5), (52, 7, 7), (52, 9, 15), (55, 0, 18)] V R (fun o X R2 => o = some (vi ((weak b k S Ks kd 7) : Int)) ∧ mapC S X))) 162 24 [(0, vr 30), (1, vi (kd:Int)), (2, vi (w : Int)), (3, vi ((t + 1 : Nat) : Int))] [] X R_4 := by
    intro fu
    induction fu with
    | zero => intro X w t s hm; exact absurd hm (Nat.not_lt_zero _)
    | succ fu ih24 =>
      intro X w t s hm24 hBX fX ht hw mX x49 x52
      have bCX := bC_c bCV fX rfl
      refine T_il d_X9_tryChance_24 rfl ?_
      refine T_k d_X9_tryChance_25 ?_
      refine T_igt d_X9_tryChance_27 ⟨by omega, by omega⟩ ⟨by omega, by omega⟩ (fun h27 => ?_) (fun h27 => ?_)
      · skip
        have hwl : w ≤ 7 := by rw [hw]; exact Nat.le_trans cntB_le ht
        refine T_al d_X9_tryChance_65 rfl ?_
        refine F_gr (b := 44) d_X9_tryChance_66 rfl hF rfl ?_
        refine T_k d_X9_tryChance_69 ?_
        refine C_v1 d_X9_tryChance_70 rfl (hdF (by decide)) (hcF _) (R_X8_rotate (S := S) (t := 0) hBX hF (by have a := mX.1.1; rw [srot_m] at a; exact a) hm4 (by omega)) (fun r_5 V_6 R_7 qV_6 => ?_)
        obtain ⟨rfl, hBV_6, cV_6, rfl, pV_6⟩ := qV_6
        have fV_6 := chg_t (A := [(53, 54), (47, 47)]) (F := [(52, 2, 2), (52, 5, 5), (52, 7, 7), (52, 9, 15), (55, 0, 18)]) fX cV_6 rfl
        have bCV_6 := bC_c bCV fV_6 rfl
        refine T_il d_X9_tryChance_73 rfl ?_
        -- leaf 27t@74
        refine T_iret d_X9_tryChance_74 rfl ?_
        have sr := srot_C (t := 0) mX x49 cV_6 pV_6
        exact ⟨hF, frK_k pK.2, hBV_6, fV_6, by rw [hw, show t = 7 by omega], srot_0 sr.1⟩
      · skip
        refine T_al d_X9_tryChance_30 rfl ?_
        refine F_gr (b := 44) d_X9_tryChance_31 rfl hF rfl ?_
        refine T_il d_X9_tryChance_34 rfl ?_
        refine C_v1 d_X9_tryChance_35 rfl (hdF (by decide)) (hcF _) (R_X8_rotate (S := S) (t := t + 1) hBX hF (by have a := mX.1.1; rw [srot_m] at a; exact a) hm4 (by omega)) (fun r_8 V_9 R_10 qV_9 => ?_)
        obtain ⟨rfl, hBV_9, cV_9, rfl, pV_9⟩ := qV_9
        have fV_9 := chg_t (A := [(53, 54), (47, 47)]) (F := [(52, 2, 2), (52, 5, 5), (52, 7, 7), (52, 9, 15), (55, 0, 18)]) fX cV_9 rfl
        have bCV_9 := bC_c bCV fV_9 rfl
        have sr := srot_C (t := t + 1) mX x49 cV_9 pV_9
        have w52 : V_9 52 2 = k := (chg_k (c := 52) cV_9 rfl) ▸ x52
        refine T_al d_X9_tryChance_38 rfl ?_
        refine F_gr (b := 52) d_X9_tryChance_39 rfl hF rfl ?_
        refine T_il d_X9_tryChance_42 rfl ?_
        refine T_null d_X9_tryChance_43 ?_
        refine C_v2 d_X9_tryChance_44 rfl (hdF (by decide)) (hcF _) (R_X1_seekT (b := b) (k := k) (S := srot S (t + 1)) (Ks := Ks) (ka := 19 + kd) (kd := kd) (N := 0) (l := fun _ _ => 0) hBV_9 hF bCV_9 ho hkq tl.1 tl.2 (by omega) (kC_c hT.1 (by omega) fV_9 rfl) hT.2 sr.1 (srot_O so) w52 hk hkd) (fun r_11 V_12 R_13 qV_12 => ?_)
        obtain ⟨rfl, hBV_12, cV_12, rfl, pV_12⟩ := qV_12
        have fV_12 := chg_t (A := [(53, 54), (47, 47)]) (F := [(52, 2, 2), (52, 5, 5), (52, 7, 7), (52, 9, 15), (55, 0, 18)]) fV_9 cV_12 rfl
        have bCV_12 := bC_c bCV fV_12 rfl
        have pS := pV_12
        have sr2 := mapC_c sr.1 cV_12 rfl
        have s49 : ∀ i, i < S.m → V_12 49 i = S.y i := by rw [chg_k (c := 49) cV_12 rfl]; exact sr.2
        have s52 : V_12 52 2 = k := (chg_j (c := 52) (j := 2) cV_12 rfl).trans w52
        have s31 : V_12 31 kd = bgK b k S Ks kd := by rw [chg_k (c := 31) fV_12 rfl]; exact h31
        have gb := hBV_12.2 52 1 15 (-1000) 10000 rfl rfl
        rw [pS, bg_is] at gb
        have gb2 : bgK b k (srot S (t + 1)) Ks kd = bgK b k (srot S (t + 1)) Ks kd := rfl
        rw [bg_is]
        refine T_al d_X9_tryChance_47 rfl ?_
        refine F_gr (b := 31) d_X9_tryChance_48 rfl hF rfl ?_
        refine T_il d_X9_tryChance_51 rfl ?_
        refine F_ia d_X9_tryChance_52 rfl hBV_12 rfl ⟨by omega, by omega⟩ (fun b_14 => ?_)
        try simp only [Int.toNat_natCast, s31]
        try simp only [Int.toNat_natCast, s31] at b_14
        refine T_ige d_X9_tryChance_53 ⟨by omega, by omega⟩ ⟨by omega, by omega⟩ (fun h53 => ?_) (fun h53 => ?_)
        · skip
          refine F_incg d_X9_tryChance_59 rfl (f := fun x_15 => [(0, vr 30), (1, vi (kd:Int)), (2, vi (w : Int)), (3, vi x_15)]) (fun _ => rfl) (fun x_15 ex_15 => ?_)
          refine T_go d_X9_tryChance_62 ?_
          -- to 24 27f.53t@24
          obtain rfl : x_15 = (((t + 1) + 1 : Nat) : Int) := by omega
          exact ih24 V_12 (w) (t + 1) (t + 1) (by omega) hBV_12 fV_12 (by first | assumption | omega) (by unfold weak; rw [cntB_f (fun z => by have := of_decide_eq_true z; omega)]; exact hw) sr2 s49 s52
        · skip
          refine F_incg d_X9_tryChance_56 rfl (f := fun x_16 => [(0, vr 30), (1, vi (kd:Int)), (2, vi x_16), (3, vi ((t + 1 : Nat) : Int))]) (fun _ => rfl) (fun x_16 ex_16 => ?_)
          refine F_incg d_X9_tryChance_59 rfl (f := fun x_17 => [(0, vr 30), (1, vi (kd:Int)), (2, vi x_16), (3, vi x_17)]) (fun _ => rfl) (fun x_17 ex_17 => ?_)
          refine T_go d_X9_tryChance_62 ?_
          -- to 24 27f.53f@24
          obtain rfl : x_16 = ((w + 1) : Int) := by omega
          obtain rfl : x_17 = (((t + 1) + 1 : Nat) : Int) := by omega
          exact ih24 V_12 (w + 1) (t + 1) (t + 1) (by omega) hBV_12 fV_12 (by first | assumption | omega) (by unfold weak; rw [cntB_t (decide_eq_true (by omega))]; rw [hw]; rfl) sr2 s49 s52
  exact L24 _ V_3 (0) (0) (0) (Nat.lt_succ_self _) hBV_3 fV_3 (by first | assumption | omega) rfl (srot_i (mapC_c mCV cK rfl)) (by rw [chg_k (c := 49) cK rfl]; exact h49) pK.1
set_option maxHeartbeats 1000000 in
set_option maxRecDepth 100000 in
theorem R_X9_placeOfT {G : GG} {V : VV} {R : RR} {h : Nat} {b : Bk} {k : Int} {S : Sp} {Ks : Nat → Kd} {kd p q r i j : Nat} (hB : Bd V) (hF : FinR R) (bCV : bC b V) (ho : bO b) (mCV : mapC S V) (so : sO S) (hk : 0 ≤ k ∧ k ≤ 400) (h7 : V 30 7 = k) (hkd : kd < 5) (hT : kC (Ks kd) (19 + kd) V ∧ kO (Ks kd)) (hh : 60 ≤ h ∧ h ≤ 84) (hp : p < S.m) (hq : q < S.m) (hr : r < S.m) (hi : i ≤ 7) (hj : j ≤ 3) (h0 : V h 0 = (kd : Int)) (hf : V h 4 = S.x p ∧ V h 5 = S.y p ∧ V h 6 = S.x q - S.x p ∧ V h 7 = S.y q - S.y p ∧ V h 8 = S.x r - S.x p ∧ V h 9 = S.y r - S.y p) : Runs G M_X9_placeOf 6 162 162 [vr 30, vr h, vi (i:Int), vi (j:Int)] V R (PQK [] [(52, 2, 2)] V R (fun o X R2 => o = some (vi (if (plO b k S (Ks kd) p q r i j) < 0 then (plO b k S (Ks kd) p q r i j) else S.h (plO b k S (Ks kd) p q r i j).toNat)))) := by
  refine Runs.of pn_X9 (Nat.le_of_ble_eq_true rfl) rfl ?_
  show TT G M_X9_placeOf (rmd 6 162 162) 162 (Zm G 162 162 (PQK [] [(52, 2, 2)] V R (fun o X R2 => o = some (vi (if (plO b k S (Ks kd) p q r i j) < 0 then (plO b k S (Ks kd) p q r i j) else S.h (plO b k S (Ks kd) p q r i j).toNat))))) 162 0 [(0, vr 30), (1, vr h), (2, vi (i:Int)), (3, vi (j:Int))] [] V R
  have fV : chg [] [(52, 2, 2)] V V := chg_r
  have hl_h := lay_h hh
  have tl := told_l hkd
  refine T_al d_X9_placeOf_0 rfl ?_
  refine F_gi d_X9_placeOf_1 hl_h hB rfl (fun b_1 => ?_)
  refine T_k d_X9_placeOf_4 ?_
  refine T_k d_X9_placeOf_5 ?_
  refine C_ps3 d_X9_placeOf_6 (hdF (by decide)) (hcF _) (R_X10_isIn ⟨by omega, by omega⟩ ⟨by omega, by omega⟩ ⟨by omega, by omega⟩) ?_
  refine T_pz1 d_X9_placeOf_9 (fun h9 => ?_) (fun h9 => ?_)
  · skip
    refine T_al d_X9_placeOf_16 rfl ?_
    refine F_gr (b := 52) d_X9_placeOf_17 rfl hF rfl ?_
    refine T_al d_X9_placeOf_20 rfl ?_
    refine F_gr (b := 16) d_X9_placeOf_21 rfl hF rfl ?_
    refine F_gr (b := 18) d_X9_placeOf_24 rfl hF rfl ?_
    refine T_al d_X9_placeOf_27 rfl ?_
    refine F_gi d_X9_placeOf_28 hl_h hB rfl (fun b_2 => ?_)
    refine F_aa2 d_X9_placeOf_31 rfl ⟨by omega, by omega⟩ ?_
    rw [show R 18 (V h 0).toNat = some (19 + kd) from by rw [h0, Int.toNat_natCast]; exact told_r hF hkd]
    refine T_al d_X9_placeOf_32 rfl ?_
    refine F_gi d_X9_placeOf_33 rfl hB rfl (fun b_3 => ?_)
    rw [h7]
    refine C_v2 d_X9_placeOf_36 rfl (hdF (by decide)) (hcF _) (R_X1_setKind (ka := 19 + kd) (k := k) hB hF hk) (fun r_4 V_5 R_6 qV_5 => ?_)
    obtain ⟨hFV_5, oV_5, hBV_5, cV_5, rfl, pV_5⟩ := qV_5
    have hF := hFV_5
    have fV_5 := chg_t (A := []) (F := [(52, 2, 2)]) fV cV_5 rfl
    have bCV_5 := bC_c bCV fV_5 rfl
    have pK := pV_5
    have oK := oV_5
    have vh : V_5 h = V h := funext fun j => cV_5 h j rfl (by unfold inF; simp; omega)
    refine T_al d_X9_placeOf_39 rfl ?_
    refine F_gr (b := 52) d_X9_placeOf_40 rfl hF rfl ?_
    refine T_al d_X9_placeOf_43 rfl ?_
    refine T_il d_X9_placeOf_44 rfl ?_
    refine T_il d_X9_placeOf_45 rfl ?_
    refine C_pv3 d_X9_placeOf_46 rfl (hdF (by decide)) (hcF _) (R_X1_placeOf (b := b) (k := k) (S := S) (K := Ks kd) (ka := 19 + kd) (p := p) (q := q) (r := r) hBV_5 hF bCV_5 ho (by rw [pK.2]; exact if_pos ⟨rfl, rfl⟩) tl.1 tl.2 (by omega) (kC_c hT.1 (by omega) fV_5 rfl) hT.2 (mapC_c mCV fV_5 rfl) so pK.1 hk hh hp hq hr hi hj (by rw [vh]; exact hf)) ?_
    -- leaf 9t@49
    refine T_iret d_X9_placeOf_49 rfl ?_
    exact ⟨hF, frK_k pK.2, hBV_5, fV_5, rfl⟩
  · exact absurd (by omega) h9
set_option maxHeartbeats 1000000 in
set_option maxRecDepth 100000 in
theorem R_X9_strengthOfT {G : GG} {V : VV} {R : RR}  {b : Bk} {k : Int} {S : Sp} {Ks : Nat → Kd} {kd : Nat} (hB : Bd V) (hF : FinR R) (bCV : bC b V) (ho : bO b) (mCV : mapC S V) (so : sO S) (hk : 0 ≤ k ∧ k ≤ 400) (h7 : V 30 7 = k) (hkd : kd < 5) (hT : kC (Ks kd) (19 + kd) V ∧ kO (Ks kd)) (h49 : ∀ i, i < S.m → V 49 i = S.y i) (h31 : V 31 kd = bgK b k S Ks kd) (h32 : V 32 kd = -1 ∨ V 32 kd = (weak b k S Ks kd 7 : Int)) : Runs G M_X9_strengthOf 10 162 162 [vr 30, vi (kd:Int)] V R (PQK [(53, 54), (47, 47), (32, 32)] [(52, 2, 2), (52, 5, 5), (52, 7, 7), (52, 9, 15), (55, 0, 18)] V R (fun o X R2 => o = some (vi (weak b k S Ks kd 7 : Int)) ∧ mapC S X ∧ X 32 kd = (weak b k S Ks kd 7 : Int) ∧ ∀ j, j ≠ kd → X 32 j = V 32 j)) := by
  refine Runs.of pn_X9 (Nat.le_of_ble_eq_true rfl) rfl ?_
  show TT G M_X9_strengthOf (rmd 10 162 162) 162 (Zm G 162 162 (PQK [(53, 54), (47, 47), (32, 32)] [(52, 2, 2), (52, 5, 5), (52, 7, 7), (52, 9, 15), (55, 0, 18)] V R (fun o X R2 => o = some (vi (weak b k S Ks kd 7 : Int)) ∧ mapC S X ∧ X 32 kd = (weak b k S Ks kd 7 : Int) ∧ ∀ j, j ≠ kd → X 32 j = V 32 j))) 162 0 [(0, vr 30), (1, vi (kd:Int))] [] V R
  have fV : chg [(53, 54), (47, 47), (32, 32)] [(52, 2, 2), (52, 5, 5), (52, 7, 7), (52, 9, 15), (55, 0, 18)] V V := chg_r
  have hwl : weak b k S Ks kd 7 ≤ 7 := cntB_le
  refine T_il d_X9_strengthOf_0 rfl ?_
  refine T_k d_X9_strengthOf_1 ?_
  refine T_k d_X9_strengthOf_2 ?_
  refine C_ps3 d_X9_strengthOf_3 (hdF (by decide)) (hcF _) (R_X10_isIn ⟨by omega, by omega⟩ ⟨by omega, by omega⟩ ⟨by omega, by omega⟩) ?_
  refine T_pz1 d_X9_strengthOf_6 (fun h6 => ?_) (fun h6 => ?_)
  · skip
    refine T_al d_X9_strengthOf_11 rfl ?_
    refine F_gr (b := 32) d_X9_strengthOf_12 rfl hF rfl ?_
    refine T_il d_X9_strengthOf_15 rfl ?_
    refine F_ia d_X9_strengthOf_16 rfl hB rfl ⟨by omega, by omega⟩ (fun b_1 => ?_)
    try simp only [Int.toNat_natCast]
    try simp only [Int.toNat_natCast] at b_1
    refine T_k d_X9_strengthOf_17 ?_
    refine T_ine d_X9_strengthOf_18 ⟨by omega, by omega⟩ ⟨by omega, by omega⟩ (fun h18 => ?_) (fun h18 => ?_)
    · skip
      refine T_al d_X9_strengthOf_32 rfl ?_
      refine F_gr (b := 32) d_X9_strengthOf_33 rfl hF rfl ?_
      refine T_il d_X9_strengthOf_36 rfl ?_
      refine F_ia d_X9_strengthOf_37 rfl hB rfl ⟨by omega, by omega⟩ (fun b_2 => ?_)
      try simp only [Int.toNat_natCast]
      try simp only [Int.toNat_natCast] at b_2
      -- leaf 6t.18t@38
      refine T_iret d_X9_strengthOf_38 rfl ?_
      have w := h32.resolve_left h18
      exact ⟨hF, frK_r, hB, fV, by rw [w], mCV, w, fun j _ => rfl⟩
    · skip
      refine T_al d_X9_strengthOf_21 rfl ?_
      refine F_gr (b := 32) d_X9_strengthOf_22 rfl hF rfl ?_
      refine T_il d_X9_strengthOf_25 rfl ?_
      refine T_al d_X9_strengthOf_26 rfl ?_
      refine T_il d_X9_strengthOf_27 rfl ?_
      refine C_v1 d_X9_strengthOf_28 rfl (hdF (by decide)) (hcF _) (R_X9_tryChanceT (b := b) (k := k) (S := S) (Ks := Ks) hB hF bCV ho mCV so hk h7 hkd hT h49 h31) (fun r_3 V_4 R_5 qV_4 => ?_)
      obtain ⟨hFV_4, oV_4, hBV_4, cV_4, rfl, pV_4⟩ := qV_4
      have hF := hFV_4
      have fV_4 := chg_t (A := [(53, 54), (47, 47), (32, 32)]) (F := [(52, 2, 2), (52, 5, 5), (52, 7, 7), (52, 9, 15), (55, 0, 18)]) fV cV_4 rfl
      have bCV_4 := bC_c bCV fV_4 rfl
      have pT := pV_4
      have oT := oV_4
      have cT := cV_4
      refine F_is d_X9_strengthOf_31 rfl hBV_4 rfl ⟨by omega, by omega⟩ ⟨by omega, by omega⟩ (fun V_6 eV_6 hBV_6 => ?_)
      have fV_6 := chg_u eV_6 rfl fV_4
      have bCV_6 := bC_c bCV fV_6 rfl
      refine T_al d_X9_strengthOf_32 rfl ?_
      refine F_gr (b := 32) d_X9_strengthOf_33 rfl hF rfl ?_
      refine T_il d_X9_strengthOf_36 rfl ?_
      refine F_ia d_X9_strengthOf_37 rfl hBV_6 rfl ⟨by omega, by omega⟩ (fun b_7 => ?_)
      try simp only [Int.toNat_natCast]
      try simp only [Int.toNat_natCast] at b_7
      -- leaf 6t.18f@38
      refine T_iret d_X9_strengthOf_38 rfl ?_
      exact ⟨hF, oT, hBV_6, fV_6, by rw [eV_6]; exact congrArg (fun z => some (vi z)) uV_self, mapC_c (A := [(32, 32)]) (F := []) pT (chg_u eV_6 rfl chg_r) rfl, by rw [eV_6]; exact uV_self, fun j hj => by rw [eV_6, Int.toNat_natCast, uV_at, if_neg hj, chg_k (c := 32) cT rfl]⟩
  · exact absurd (by omega) h6
