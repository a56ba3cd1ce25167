/-! the law's loop -/
def R_law : String := "PostHousesLaw"
def lw_P (b : Addr) (xs : List Int32) (args : Array Value) (s : State) : Prop := args = #[.ref b] ∧ s.IntsAt b xs ∧ xs.length ≤ 3072 ∧ (Jvm.Cond.and given_1 narrow_1).before args s = true
def lw_Q (_ : Array Value) (s : State) (o : Outcome) (t : State) : Prop := o = .returned (some (.int 1)) ∧ Framed s o t [] 600000 7302250
def lw_Z (below : List Frame) (a : Array Value) (s : State) : State → Prop := fun t => ∃ o, t.status = .running ∧ Ended t below o ∧ lw_Q a s o t
/-- the law's own end, with 1 on the stack, nothing written that was there before, its room as the claim has it -/
theorem lw_ret {p : Program} {l : Launch} {e : Env} {s : State} {m : MethodId} {below : List Frame} {meth : Method} {c : Code} {b : Nat} (hx : p.tables.exec = Jvm.exec) (hb : c.code = code) (hr : meth.sig.returnType = ret) (hlocks : meth.locks = false) {pc : Nat} {H : Heap} {ls : Array Slot} (hdg : decode code pc = .ok (.ireturn, 1)) : W p l e room_1 s m #[Value.ref b] below meth c H [] 600000 7302250 (lw_Z below #[Value.ref b] s) (F0 m pc ls [.int 1]) := by
  intro T hT X
  obtain ⟨fs, hret, hrun, hended, hW, hframe⟩ := X.leave (v := some (.int 1)) (hlocks := hlocks) (fun h => by rw [hr] at h; cases h)
  have hmeth' : T.vm.method? m = some meth := X.method'
  refine ⟨T.setFrames fs, ?_, .returned (some (.int 1)), hrun, hended, rfl, ⟨_, rfl⟩, hW, hframe⟩
  jvm_step X.here [X.here.top, hx, hb, hdg, hmeth', hr, ret, narrow_b1]
  (try refine ⟨rfl, ?_⟩); (try refine ⟨rfl, ?_⟩)
  first | (intro acts; rw [hret _ acts rfl rfl rfl]) | rw [hret _ _ rfl rfl rfl]
  exact Steps.refl _
/-- what holds at the law's entry: the machine, the code, the tables' words (any of lw_tbl by 'hts w (by decide +kernel)'), the script of L ints xs at the cell b, what the Statement gives of the start (any of its parts by flat_of_before) -/
def lw_At (p : Program) (s : State) (m : MethodId) (meth : Method) (c : Code) (b L : Nat) (xs : Nat → Int32) : Prop :=
  p.tables.exec = Jvm.exec ∧ c.code = code ∧ meth.sig.returnType = ret ∧ c.maxLocals = 4 ∧ s.vm.findClass R_law = some m.cls ∧ (∀ w ∈ lw_tbl, w.before #[Value.ref b] s = true) ∧ va_X b L xs s s.heap ∧ b < s.heap.size ∧ meth.locks = false ∧ (Jvm.Cond.and given_1 narrow_1).before #[Value.ref b] s = true
theorem lw_ret2 {p : Program} {l : Launch} {e : Env} {s : State} {m : MethodId} {below : List Frame} {meth : Method} {c : Code} {a0 : Array Value} (hx : p.tables.exec = Jvm.exec) (hb : c.code = code) (hr : meth.sig.returnType = ret) (hlocks : meth.locks = false) {pc : Nat} {H : Heap} {ls : Array Slot} (hdg : decode code pc = .ok (.ireturn, 1)) : W p l e room_1 s m a0 below meth c H [] 600000 7302250 (lw_Z below a0 s) (F0 m pc ls [.int 1]) := by
  intro T hT X
  obtain ⟨fs, hret, hrun, hended, hW, hframe⟩ := X.leave (v := some (.int 1)) (hlocks := hlocks) (fun h => by rw [hr] at h; cases h)
  have hmeth' : T.vm.method? m = some meth := X.method'
  refine ⟨T.setFrames fs, ?_, .returned (some (.int 1)), hrun, hended, rfl, ⟨_, rfl⟩, hW, hframe⟩
  jvm_step X.here [X.here.top, hx, hb, hdg, hmeth', hr, ret, narrow_b1]
  (try refine ⟨rfl, ?_⟩); (try refine ⟨rfl, ?_⟩)
  first | (intro acts; rw [hret _ acts rfl rfl rfl]) | rw [hret _ _ rfl rfl rfl]
  exact Steps.refl _
theorem T_end {G : GG} {ls : List (Nat × AV)} {V : VV} {R : RR} : TT G M_L_law room_1 0 lw_Z 162 1231 ls [vi 1] V R := by
  intro p e s m args below meth c H locs lr C hW hS hl'
  refine va_forget (fun q hq => by have z1 : gB G ≤ q.base := hS.2.2 q hq; have z : s.heap.size = gB G + 0 := C.2.2.2.2.2.2.2.2.2; omega) ?_
  refine W.widen (k := 600000) (n := 7302250) (by decide +kernel) (by decide +kernel) ?_
  exact lw_ret2 C.1 C.2.1 C.2.2.1 C.2.2.2.2.2.2.1 d_L_law_1231.1
theorem iand_r32 (a b : Int) : r32 (iandZ a b) := ⟨Int32.le_toInt _, Int32.toInt_lt _⟩
abbrev sx (G : GG) (j : Nat) : Int := (gX G j).toInt
theorem sx_r (G : GG) (j : Nat) : r32 (sx G j) := ⟨Int32.le_toInt _, Int32.toInt_lt _⟩
theorem sx_v (G : GG) (j : Nat) : sVal G 0 j = Int32.ofInt (sx G j) := by
  show gX G j = Int32.ofInt (gX G j).toInt
  rw [Int32.ofInt_toInt]
theorem law_hc : 162 - 0 ≤ room_1.cells ∧ sl 162 - sl 0 ≤ room_1.slots ∧ 0 ≤ 162 := by decide +kernel
set_option maxHeartbeats 4000000 in
set_option maxRecDepth 100000 in
theorem law_loop {G : GG} (hL : gN G ≤ 3072) : ∀ (fu : Nat) (V : VV) (R : RR) (i : Nat), gN G + 6 - i < fu → i ≤ gN G + 6 → INVX V R → TT G M_L_law room_1 0 lw_Z 162 18 [(0, vr 1000), (1, vr 0), (2, vr 99), (3, vi (i : Int))] [] V R := by
  intro fu
  induction fu with
  | zero => intro V R i hm; exact absurd hm (Nat.not_lt_zero _)
  | succ fu ih =>
    intro V R i hm hi hI
    refine T_il d_L_law_18 rfl ?_
    refine T_al d_L_law_19 rfl ?_
    refine T_slen (j := 0) d_L_law_20 (by decide) ?_
    rw [show sLen G 0 = gN G from rfl]
    refine T_k d_L_law_21 ?_
    refine T_isub d_L_law_23 ?_
    by_cases hend : (i : Int) ≤ (gN G : Int) - 6
    · skip
      refine T_igt d_L_law_24 ⟨by omega, by omega⟩ ⟨by omega, by omega⟩ (fun z => absurd z (by omega)) (fun _ => ?_)
      have L1224 : ∀ (Y : VV) (Q : RR), INVX Y Q → TT G M_L_law room_1 0 lw_Z 162 1224 [(0, vr 1000), (1, vr 0), (2, vr 99), (3, vi (i : Int))] [] Y Q := fun Y Q hY => by
        refine F_incg d_L_law_1224 rfl (f := fun y => [(0, vr 1000), (1, vr 0), (2, vr 99), (3, vi y)]) (fun _ => rfl) (fun y ey => ?_)
        obtain rfl : y = ((i + 6 : Nat) : Int) := by rw [ey]; rfl
        refine T_go d_L_law_1227 ?_
        exact ih Y Q (i + 6) (by omega) (by omega) hY
      refine T_al d_L_law_27 rfl ?_
      refine T_il d_L_law_28 rfl ?_
      refine T_sald (j := 0) (n := gN G) d_L_law_29 (by decide) rfl (by omega) ⟨by omega, by omega⟩ (sx_v G _) ?_
      refine T_k d_L_law_30 ?_
      refine T_iand d_L_law_32 ?_
      have hw := iand_r32 (sx G ((i : Nat) : Int).toNat) 31
      generalize iandZ (sx G ((i : Nat) : Int).toNat) 31 = w at hw ⊢
      by_cases hs33 : w < 0 ∨ 27 < w
      · exact T_swo d_L_law_33 hw hs33 (tg := 1224) (by decide) (L1224 V R hI)
      have hq33 : w = 0 ∨ w = 1 ∨ w = 2 ∨ w = 3 ∨ w = 4 ∨ w = 5 ∨ w = 6 ∨ w = 7 ∨ w = 8 ∨ w = 9 ∨ w = 10 ∨ w = 11 ∨ w = 12 ∨ w = 13 ∨ w = 14 ∨ w = 15 ∨ w = 16 ∨ w = 17 ∨ w = 18 ∨ w = 19 ∨ w = 20 ∨ w = 21 ∨ w = 22 ∨ w = 23 ∨ w = 24 ∨ w = 25 ∨ w = 26 ∨ w = 27 := by omega
      rcases hq33 with e33_0 | e33_1 | e33_2 | e33_3 | e33_4 | e33_5 | e33_6 | e33_7 | e33_8 | e33_9 | e33_10 | e33_11 | e33_12 | e33_13 | e33_14 | e33_15 | e33_16 | e33_17 | e33_18 | e33_19 | e33_20 | e33_21 | e33_22 | e33_23 | e33_24 | e33_25 | e33_26 | e33_27
      · refine T_swi d_L_law_33 hw (by omega) (by omega) (tg := 160) (by rw [e33_0]; rfl) ?_
        refine T_al d_L_law_160 rfl ?_
        refine T_al d_L_law_161 rfl ?_
        refine T_il d_L_law_162 rfl ?_
        refine T_k d_L_law_163 ?_
        refine T_iadd d_L_law_164 ?_
        refine T_sald (j := 0) (n := gN G) d_L_law_165 (by decide) rfl (by omega) ⟨by omega, by omega⟩ (sx_v G _) ?_
        refine T_al d_L_law_166 rfl ?_
        refine T_il d_L_law_167 rfl ?_
        refine T_k d_L_law_168 ?_
        refine T_iadd d_L_law_169 ?_
        refine T_sald (j := 0) (n := gN G) d_L_law_170 (by decide) rfl (by omega) ⟨by omega, by omega⟩ (sx_v G _) ?_
        refine T_al d_L_law_171 rfl ?_
        refine T_il d_L_law_172 rfl ?_
        refine T_k d_L_law_173 ?_
        refine T_iadd d_L_law_174 ?_
        refine T_sald (j := 0) (n := gN G) d_L_law_175 (by decide) rfl (by omega) ⟨by omega, by omega⟩ (sx_v G _) ?_
        refine T_al d_L_law_176 rfl ?_
        refine T_il d_L_law_177 rfl ?_
        refine T_k d_L_law_178 ?_
        refine T_iadd d_L_law_179 ?_
        refine T_sald (j := 0) (n := gN G) d_L_law_180 (by decide) rfl (by omega) ⟨by omega, by omega⟩ (sx_v G _) ?_
        refine T_al d_L_law_181 rfl ?_
        refine T_il d_L_law_182 rfl ?_
        refine T_k d_L_law_183 ?_
        refine T_iadd d_L_law_184 ?_
        refine T_sald (j := 0) (n := gN G) d_L_law_185 (by decide) rfl (by omega) ⟨by omega, by omega⟩ (sx_v G _) ?_
        refine C_v5 d_L_law_186 rfl ⟨by decide, by decide⟩ law_hc (pr_hole hI (sx_r G _) (sx_r G _) (sx_r G _) (sx_r G _) (sx_r G _)) (fun r X Q q => ?_)
        obtain ⟨v, rfl, hv, hM⟩ := q
        refine T_al d_L_law_189 rfl ?_
        refine T_al d_L_law_190 rfl ?_
        refine T_il d_L_law_191 rfl ?_
        refine T_k d_L_law_192 ?_
        refine T_iadd d_L_law_193 ?_
        refine T_sald (j := 0) (n := gN G) d_L_law_194 (by decide) rfl (by omega) ⟨by omega, by omega⟩ (sx_v G _) ?_
        refine T_al d_L_law_195 rfl ?_
        refine T_il d_L_law_196 rfl ?_
        refine T_k d_L_law_197 ?_
        refine T_iadd d_L_law_198 ?_
        refine T_sald (j := 0) (n := gN G) d_L_law_199 (by decide) rfl (by omega) ⟨by omega, by omega⟩ (sx_v G _) ?_
        refine T_al d_L_law_200 rfl ?_
        refine T_il d_L_law_201 rfl ?_
        refine T_k d_L_law_202 ?_
        refine T_iadd d_L_law_203 ?_
        refine T_sald (j := 0) (n := gN G) d_L_law_204 (by decide) rfl (by omega) ⟨by omega, by omega⟩ (sx_v G _) ?_
        refine T_al d_L_law_205 rfl ?_
        refine T_il d_L_law_206 rfl ?_
        refine T_k d_L_law_207 ?_
        refine T_iadd d_L_law_208 ?_
        refine T_sald (j := 0) (n := gN G) d_L_law_209 (by decide) rfl (by omega) ⟨by omega, by omega⟩ (sx_v G _) ?_
        refine T_al d_L_law_210 rfl ?_
        refine T_il d_L_law_211 rfl ?_
        refine T_k d_L_law_212 ?_
        refine T_iadd d_L_law_213 ?_
        refine T_sald (j := 0) (n := gN G) d_L_law_214 (by decide) rfl (by omega) ⟨by omega, by omega⟩ (sx_v G _) ?_
        refine C_v5 d_L_law_215 rfl ⟨by decide, by decide⟩ law_hc hM (fun r2 Y Q2 q2 => ?_)
        obtain ⟨rfl, hI2⟩ := q2
        exact T_ieq d_L_law_218 hv hv (fun _ => L1224 Y Q2 hI2) (fun z => absurd rfl z)
      · refine T_swi d_L_law_33 hw (by omega) (by omega) (tg := 223) (by rw [e33_1]; rfl) ?_
        refine T_al d_L_law_223 rfl ?_
        refine T_al d_L_law_224 rfl ?_
        refine T_il d_L_law_225 rfl ?_
        refine T_k d_L_law_226 ?_
        refine T_iadd d_L_law_227 ?_
        refine T_sald (j := 0) (n := gN G) d_L_law_228 (by decide) rfl (by omega) ⟨by omega, by omega⟩ (sx_v G _) ?_
        refine T_al d_L_law_229 rfl ?_
        refine T_il d_L_law_230 rfl ?_
        refine T_k d_L_law_231 ?_
        refine T_iadd d_L_law_232 ?_
        refine T_sald (j := 0) (n := gN G) d_L_law_233 (by decide) rfl (by omega) ⟨by omega, by omega⟩ (sx_v G _) ?_
        refine T_al d_L_law_234 rfl ?_
        refine T_il d_L_law_235 rfl ?_
        refine T_k d_L_law_236 ?_
        refine T_iadd d_L_law_237 ?_
        refine T_sald (j := 0) (n := gN G) d_L_law_238 (by decide) rfl (by omega) ⟨by omega, by omega⟩ (sx_v G _) ?_
        refine C_v3 d_L_law_239 rfl ⟨by decide, by decide⟩ law_hc (pr_retell hI (sx_r G _) (sx_r G _) (sx_r G _)) (fun r X Q q => ?_)
        obtain ⟨v, rfl, hv, hM⟩ := q
        refine T_al d_L_law_242 rfl ?_
        refine T_al d_L_law_243 rfl ?_
        refine T_il d_L_law_244 rfl ?_
        refine T_k d_L_law_245 ?_
        refine T_iadd d_L_law_246 ?_
        refine T_sald (j := 0) (n := gN G) d_L_law_247 (by decide) rfl (by omega) ⟨by omega, by omega⟩ (sx_v G _) ?_
        refine T_al d_L_law_248 rfl ?_
        refine T_il d_L_law_249 rfl ?_
        refine T_k d_L_law_250 ?_
        refine T_iadd d_L_law_251 ?_
        refine T_sald (j := 0) (n := gN G) d_L_law_252 (by decide) rfl (by omega) ⟨by omega, by omega⟩ (sx_v G _) ?_
        refine T_al d_L_law_253 rfl ?_
        refine T_il d_L_law_254 rfl ?_
        refine T_k d_L_law_255 ?_
        refine T_iadd d_L_law_256 ?_
        refine T_sald (j := 0) (n := gN G) d_L_law_257 (by decide) rfl (by omega) ⟨by omega, by omega⟩ (sx_v G _) ?_
        refine C_v3 d_L_law_258 rfl ⟨by decide, by decide⟩ law_hc hM (fun r2 Y Q2 q2 => ?_)
        obtain ⟨rfl, hI2⟩ := q2
        exact T_ieq d_L_law_261 hv hv (fun _ => L1224 Y Q2 hI2) (fun z => absurd rfl z)
      · refine T_swi d_L_law_33 hw (by omega) (by omega) (tg := 266) (by rw [e33_2]; rfl) ?_
        refine T_al d_L_law_266 rfl ?_
        refine T_al d_L_law_267 rfl ?_
        refine T_il d_L_law_268 rfl ?_
        refine T_k d_L_law_269 ?_
        refine T_iadd d_L_law_270 ?_
        refine T_sald (j := 0) (n := gN G) d_L_law_271 (by decide) rfl (by omega) ⟨by omega, by omega⟩ (sx_v G _) ?_
        refine T_al d_L_law_272 rfl ?_
        refine T_il d_L_law_273 rfl ?_
        refine T_k d_L_law_274 ?_
        refine T_iadd d_L_law_275 ?_
        refine T_sald (j := 0) (n := gN G) d_L_law_276 (by decide) rfl (by omega) ⟨by omega, by omega⟩ (sx_v G _) ?_
        refine C_v2 d_L_law_277 rfl ⟨by decide, by decide⟩ law_hc (pr_strike hI (sx_r G _) (sx_r G _)) (fun r X Q q => ?_)
        obtain ⟨v, rfl, hv, hM⟩ := q
        refine T_al d_L_law_280 rfl ?_
        refine T_al d_L_law_281 rfl ?_
        refine T_il d_L_law_282 rfl ?_
        refine T_k d_L_law_283 ?_
        refine T_iadd d_L_law_284 ?_
        refine T_sald (j := 0) (n := gN G) d_L_law_285 (by decide) rfl (by omega) ⟨by omega, by omega⟩ (sx_v G _) ?_
        refine T_al d_L_law_286 rfl ?_
        refine T_il d_L_law_287 rfl ?_
        refine T_k d_L_law_288 ?_
        refine T_iadd d_L_law_289 ?_
        refine T_sald (j := 0) (n := gN G) d_L_law_290 (by decide) rfl (by omega) ⟨by omega, by omega⟩ (sx_v G _) ?_
        refine C_v2 d_L_law_291 rfl ⟨by decide, by decide⟩ law_hc hM (fun r2 Y Q2 q2 => ?_)
        obtain ⟨rfl, hI2⟩ := q2
        exact T_ieq d_L_law_294 hv hv (fun _ => L1224 Y Q2 hI2) (fun z => absurd rfl z)
      · refine T_swi d_L_law_33 hw (by omega) (by omega) (tg := 299) (by rw [e33_3]; rfl) ?_
        refine T_al d_L_law_299 rfl ?_
        refine T_al d_L_law_300 rfl ?_
        refine T_il d_L_law_301 rfl ?_
        refine T_k d_L_law_302 ?_
        refine T_iadd d_L_law_303 ?_
        refine T_sald (j := 0) (n := gN G) d_L_law_304 (by decide) rfl (by omega) ⟨by omega, by omega⟩ (sx_v G _) ?_
        refine T_al d_L_law_305 rfl ?_
        refine T_il d_L_law_306 rfl ?_
        refine T_k d_L_law_307 ?_
        refine T_iadd d_L_law_308 ?_
        refine T_sald (j := 0) (n := gN G) d_L_law_309 (by decide) rfl (by omega) ⟨by omega, by omega⟩ (sx_v G _) ?_
        refine T_al d_L_law_310 rfl ?_
        refine T_il d_L_law_311 rfl ?_
        refine T_k d_L_law_312 ?_
        refine T_iadd d_L_law_313 ?_
        refine T_sald (j := 0) (n := gN G) d_L_law_314 (by decide) rfl (by omega) ⟨by omega, by omega⟩ (sx_v G _) ?_
        refine T_al d_L_law_315 rfl ?_
        refine T_il d_L_law_316 rfl ?_
        refine T_k d_L_law_317 ?_
        refine T_iadd d_L_law_318 ?_
        refine T_sald (j := 0) (n := gN G) d_L_law_319 (by decide) rfl (by omega) ⟨by omega, by omega⟩ (sx_v G _) ?_
        refine T_al d_L_law_320 rfl ?_
        refine T_il d_L_law_321 rfl ?_
        refine T_k d_L_law_322 ?_
        refine T_iadd d_L_law_323 ?_
        refine T_sald (j := 0) (n := gN G) d_L_law_324 (by decide) rfl (by omega) ⟨by omega, by omega⟩ (sx_v G _) ?_
        refine C_v5 d_L_law_325 rfl ⟨by decide, by decide⟩ law_hc (pr_trench hI (sx_r G _) (sx_r G _) (sx_r G _) (sx_r G _) (sx_r G _)) (fun r X Q q => ?_)
        obtain ⟨v, rfl, hv, hM⟩ := q
        refine T_al d_L_law_328 rfl ?_
        refine T_al d_L_law_329 rfl ?_
        refine T_il d_L_law_330 rfl ?_
        refine T_k d_L_law_331 ?_
        refine T_iadd d_L_law_332 ?_
        refine T_sald (j := 0) (n := gN G) d_L_law_333 (by decide) rfl (by omega) ⟨by omega, by omega⟩ (sx_v G _) ?_
        refine T_al d_L_law_334 rfl ?_
        refine T_il d_L_law_335 rfl ?_
        refine T_k d_L_law_336 ?_
        refine T_iadd d_L_law_337 ?_
        refine T_sald (j := 0) (n := gN G) d_L_law_338 (by decide) rfl (by omega) ⟨by omega, by omega⟩ (sx_v G _) ?_
        refine T_al d_L_law_339 rfl ?_
        refine T_il d_L_law_340 rfl ?_
        refine T_k d_L_law_341 ?_
        refine T_iadd d_L_law_342 ?_
        refine T_sald (j := 0) (n := gN G) d_L_law_343 (by decide) rfl (by omega) ⟨by omega, by omega⟩ (sx_v G _) ?_
        refine T_al d_L_law_344 rfl ?_
        refine T_il d_L_law_345 rfl ?_
        refine T_k d_L_law_346 ?_
        refine T_iadd d_L_law_347 ?_
        refine T_sald (j := 0) (n := gN G) d_L_law_348 (by decide) rfl (by omega) ⟨by omega, by omega⟩ (sx_v G _) ?_
        refine T_al d_L_law_349 rfl ?_
        refine T_il d_L_law_350 rfl ?_
        refine T_k d_L_law_351 ?_
        refine T_iadd d_L_law_352 ?_
        refine T_sald (j := 0) (n := gN G) d_L_law_353 (by decide) rfl (by omega) ⟨by omega, by omega⟩ (sx_v G _) ?_
        refine C_v5 d_L_law_354 rfl ⟨by decide, by decide⟩ law_hc hM (fun r2 Y Q2 q2 => ?_)
        obtain ⟨rfl, hI2⟩ := q2
        exact T_ieq d_L_law_357 hv hv (fun _ => L1224 Y Q2 hI2) (fun z => absurd rfl z)
      · refine T_swi d_L_law_33 hw (by omega) (by omega) (tg := 362) (by rw [e33_4]; rfl) ?_
        refine T_al d_L_law_362 rfl ?_
        refine T_al d_L_law_363 rfl ?_
        refine T_il d_L_law_364 rfl ?_
        refine T_k d_L_law_365 ?_
        refine T_iadd d_L_law_366 ?_
        refine T_sald (j := 0) (n := gN G) d_L_law_367 (by decide) rfl (by omega) ⟨by omega, by omega⟩ (sx_v G _) ?_
        refine T_al d_L_law_368 rfl ?_
        refine T_il d_L_law_369 rfl ?_
        refine T_k d_L_law_370 ?_
        refine T_iadd d_L_law_371 ?_
        refine T_sald (j := 0) (n := gN G) d_L_law_372 (by decide) rfl (by omega) ⟨by omega, by omega⟩ (sx_v G _) ?_
        refine T_al d_L_law_373 rfl ?_
        refine T_il d_L_law_374 rfl ?_
        refine T_k d_L_law_375 ?_
        refine T_iadd d_L_law_376 ?_
        refine T_sald (j := 0) (n := gN G) d_L_law_377 (by decide) rfl (by omega) ⟨by omega, by omega⟩ (sx_v G _) ?_
        refine T_al d_L_law_378 rfl ?_
        refine T_il d_L_law_379 rfl ?_
        refine T_k d_L_law_380 ?_
        refine T_iadd d_L_law_381 ?_
        refine T_sald (j := 0) (n := gN G) d_L_law_382 (by decide) rfl (by omega) ⟨by omega, by omega⟩ (sx_v G _) ?_
        refine T_al d_L_law_383 rfl ?_
        refine T_il d_L_law_384 rfl ?_
        refine T_k d_L_law_385 ?_
        refine T_iadd d_L_law_386 ?_
        refine T_sald (j := 0) (n := gN G) d_L_law_387 (by decide) rfl (by omega) ⟨by omega, by omega⟩ (sx_v G _) ?_
        refine C_v5 d_L_law_388 rfl ⟨by decide, by decide⟩ law_hc (pr_plough hI (sx_r G _) (sx_r G _) (sx_r G _) (sx_r G _) (sx_r G _)) (fun r X Q q => ?_)
        obtain ⟨v, rfl, hv, hM⟩ := q
        refine T_al d_L_law_391 rfl ?_
        refine T_al d_L_law_392 rfl ?_
        refine T_il d_L_law_393 rfl ?_
        refine T_k d_L_law_394 ?_
        refine T_iadd d_L_law_395 ?_
        refine T_sald (j := 0) (n := gN G) d_L_law_396 (by decide) rfl (by omega) ⟨by omega, by omega⟩ (sx_v G _) ?_
        refine T_al d_L_law_397 rfl ?_
        refine T_il d_L_law_398 rfl ?_
        refine T_k d_L_law_399 ?_
        refine T_iadd d_L_law_400 ?_
        refine T_sald (j := 0) (n := gN G) d_L_law_401 (by decide) rfl (by omega) ⟨by omega, by omega⟩ (sx_v G _) ?_
        refine T_al d_L_law_402 rfl ?_
        refine T_il d_L_law_403 rfl ?_
        refine T_k d_L_law_404 ?_
        refine T_iadd d_L_law_405 ?_
        refine T_sald (j := 0) (n := gN G) d_L_law_406 (by decide) rfl (by omega) ⟨by omega, by omega⟩ (sx_v G _) ?_
        refine T_al d_L_law_407 rfl ?_
        refine T_il d_L_law_408 rfl ?_
        refine T_k d_L_law_409 ?_
        refine T_iadd d_L_law_410 ?_
        refine T_sald (j := 0) (n := gN G) d_L_law_411 (by decide) rfl (by omega) ⟨by omega, by omega⟩ (sx_v G _) ?_
        refine T_al d_L_law_412 rfl ?_
        refine T_il d_L_law_413 rfl ?_
        refine T_k d_L_law_414 ?_
        refine T_iadd d_L_law_415 ?_
        refine T_sald (j := 0) (n := gN G) d_L_law_416 (by decide) rfl (by omega) ⟨by omega, by omega⟩ (sx_v G _) ?_
        refine C_v5 d_L_law_417 rfl ⟨by decide, by decide⟩ law_hc hM (fun r2 Y Q2 q2 => ?_)
        obtain ⟨rfl, hI2⟩ := q2
        exact T_ieq d_L_law_420 hv hv (fun _ => L1224 Y Q2 hI2) (fun z => absurd rfl z)
      · refine T_swi d_L_law_33 hw (by omega) (by omega) (tg := 425) (by rw [e33_5]; rfl) ?_
        refine T_al d_L_law_425 rfl ?_
        refine T_al d_L_law_426 rfl ?_
        refine T_il d_L_law_427 rfl ?_
        refine T_k d_L_law_428 ?_
        refine T_iadd d_L_law_429 ?_
        refine T_sald (j := 0) (n := gN G) d_L_law_430 (by decide) rfl (by omega) ⟨by omega, by omega⟩ (sx_v G _) ?_
        refine C_v1 d_L_law_431 rfl ⟨by decide, by decide⟩ law_hc (pr_error hI (sx_r G _)) (fun r X Q q => ?_)
        obtain ⟨v, rfl, hv, hM⟩ := q
        refine T_al d_L_law_434 rfl ?_
        refine T_al d_L_law_435 rfl ?_
        refine T_il d_L_law_436 rfl ?_
        refine T_k d_L_law_437 ?_
        refine T_iadd d_L_law_438 ?_
        refine T_sald (j := 0) (n := gN G) d_L_law_439 (by decide) rfl (by omega) ⟨by omega, by omega⟩ (sx_v G _) ?_
        refine C_v1 d_L_law_440 rfl ⟨by decide, by decide⟩ law_hc hM (fun r2 Y Q2 q2 => ?_)
        obtain ⟨rfl, hI2⟩ := q2
        exact T_ieq d_L_law_443 hv hv (fun _ => L1224 Y Q2 hI2) (fun z => absurd rfl z)
      · refine T_swi d_L_law_33 hw (by omega) (by omega) (tg := 448) (by rw [e33_6]; rfl) ?_
        refine T_al d_L_law_448 rfl ?_
        refine T_al d_L_law_449 rfl ?_
        refine T_il d_L_law_450 rfl ?_
        refine T_k d_L_law_451 ?_
        refine T_iadd d_L_law_452 ?_
        refine T_sald (j := 0) (n := gN G) d_L_law_453 (by decide) rfl (by omega) ⟨by omega, by omega⟩ (sx_v G _) ?_
        refine T_al d_L_law_454 rfl ?_
        refine T_il d_L_law_455 rfl ?_
        refine T_k d_L_law_456 ?_
        refine T_iadd d_L_law_457 ?_
        refine T_sald (j := 0) (n := gN G) d_L_law_458 (by decide) rfl (by omega) ⟨by omega, by omega⟩ (sx_v G _) ?_
        refine C_v2 d_L_law_459 rfl ⟨by decide, by decide⟩ law_hc (pr_frame hI (sx_r G _) (sx_r G _)) (fun r X Q q => ?_)
        obtain ⟨v, rfl, hv, hM⟩ := q
        refine T_al d_L_law_462 rfl ?_
        refine T_al d_L_law_463 rfl ?_
        refine T_il d_L_law_464 rfl ?_
        refine T_k d_L_law_465 ?_
        refine T_iadd d_L_law_466 ?_
        refine T_sald (j := 0) (n := gN G) d_L_law_467 (by decide) rfl (by omega) ⟨by omega, by omega⟩ (sx_v G _) ?_
        refine T_al d_L_law_468 rfl ?_
        refine T_il d_L_law_469 rfl ?_
        refine T_k d_L_law_470 ?_
        refine T_iadd d_L_law_471 ?_
        refine T_sald (j := 0) (n := gN G) d_L_law_472 (by decide) rfl (by omega) ⟨by omega, by omega⟩ (sx_v G _) ?_
        refine C_v2 d_L_law_473 rfl ⟨by decide, by decide⟩ law_hc hM (fun r2 Y Q2 q2 => ?_)
        obtain ⟨rfl, hI2⟩ := q2
        exact T_ieq d_L_law_476 hv hv (fun _ => L1224 Y Q2 hI2) (fun z => absurd rfl z)
      · refine T_swi d_L_law_33 hw (by omega) (by omega) (tg := 481) (by rw [e33_7]; rfl) ?_
        refine T_al d_L_law_481 rfl ?_
        refine T_al d_L_law_482 rfl ?_
        refine T_il d_L_law_483 rfl ?_
        refine T_k d_L_law_484 ?_
        refine T_iadd d_L_law_485 ?_
        refine T_sald (j := 0) (n := gN G) d_L_law_486 (by decide) rfl (by omega) ⟨by omega, by omega⟩ (sx_v G _) ?_
        refine T_al d_L_law_487 rfl ?_
        refine T_il d_L_law_488 rfl ?_
        refine T_k d_L_law_489 ?_
        refine T_iadd d_L_law_490 ?_
        refine T_sald (j := 0) (n := gN G) d_L_law_491 (by decide) rfl (by omega) ⟨by omega, by omega⟩ (sx_v G _) ?_
        refine T_al d_L_law_492 rfl ?_
        refine T_il d_L_law_493 rfl ?_
        refine T_k d_L_law_494 ?_
        refine T_iadd d_L_law_495 ?_
        refine T_sald (j := 0) (n := gN G) d_L_law_496 (by decide) rfl (by omega) ⟨by omega, by omega⟩ (sx_v G _) ?_
        refine C_v3 d_L_law_497 rfl ⟨by decide, by decide⟩ law_hc (pr_spot hI (sx_r G _) (sx_r G _) (sx_r G _)) (fun r X Q q => ?_)
        obtain ⟨v, rfl, hv, hM⟩ := q
        refine T_al d_L_law_500 rfl ?_
        refine T_al d_L_law_501 rfl ?_
        refine T_il d_L_law_502 rfl ?_
        refine T_k d_L_law_503 ?_
        refine T_iadd d_L_law_504 ?_
        refine T_sald (j := 0) (n := gN G) d_L_law_505 (by decide) rfl (by omega) ⟨by omega, by omega⟩ (sx_v G _) ?_
        refine T_al d_L_law_506 rfl ?_
        refine T_il d_L_law_507 rfl ?_
        refine T_k d_L_law_508 ?_
        refine T_iadd d_L_law_509 ?_
        refine T_sald (j := 0) (n := gN G) d_L_law_510 (by decide) rfl (by omega) ⟨by omega, by omega⟩ (sx_v G _) ?_
        refine T_al d_L_law_511 rfl ?_
        refine T_il d_L_law_512 rfl ?_
        refine T_k d_L_law_513 ?_
        refine T_iadd d_L_law_514 ?_
        refine T_sald (j := 0) (n := gN G) d_L_law_515 (by decide) rfl (by omega) ⟨by omega, by omega⟩ (sx_v G _) ?_
        refine C_v3 d_L_law_516 rfl ⟨by decide, by decide⟩ law_hc hM (fun r2 Y Q2 q2 => ?_)
        obtain ⟨rfl, hI2⟩ := q2
        exact T_ieq d_L_law_519 hv hv (fun _ => L1224 Y Q2 hI2) (fun z => absurd rfl z)
      · refine T_swi d_L_law_33 hw (by omega) (by omega) (tg := 524) (by rw [e33_8]; rfl) ?_
        refine T_al d_L_law_524 rfl ?_
        refine T_al d_L_law_525 rfl ?_
        refine T_il d_L_law_526 rfl ?_
        refine T_k d_L_law_527 ?_
        refine T_iadd d_L_law_528 ?_
        refine T_sald (j := 0) (n := gN G) d_L_law_529 (by decide) rfl (by omega) ⟨by omega, by omega⟩ (sx_v G _) ?_
        refine T_al d_L_law_530 rfl ?_
        refine T_il d_L_law_531 rfl ?_
        refine T_k d_L_law_532 ?_
        refine T_iadd d_L_law_533 ?_
        refine T_sald (j := 0) (n := gN G) d_L_law_534 (by decide) rfl (by omega) ⟨by omega, by omega⟩ (sx_v G _) ?_
        refine T_al d_L_law_535 rfl ?_
        refine T_il d_L_law_536 rfl ?_
        refine T_k d_L_law_537 ?_
        refine T_iadd d_L_law_538 ?_
        refine T_sald (j := 0) (n := gN G) d_L_law_539 (by decide) rfl (by omega) ⟨by omega, by omega⟩ (sx_v G _) ?_
        refine T_al d_L_law_540 rfl ?_
        refine T_il d_L_law_541 rfl ?_
        refine T_k d_L_law_542 ?_
        refine T_iadd d_L_law_543 ?_
        refine T_sald (j := 0) (n := gN G) d_L_law_544 (by decide) rfl (by omega) ⟨by omega, by omega⟩ (sx_v G _) ?_
        refine T_al d_L_law_545 rfl ?_
        refine T_il d_L_law_546 rfl ?_
        refine T_k d_L_law_547 ?_
        refine T_iadd d_L_law_548 ?_
        refine T_sald (j := 0) (n := gN G) d_L_law_549 (by decide) rfl (by omega) ⟨by omega, by omega⟩ (sx_v G _) ?_
        refine C_v5 d_L_law_550 rfl ⟨by decide, by decide⟩ law_hc (pr_feed hI (sx_r G _) (sx_r G _) (sx_r G _) (sx_r G _) (sx_r G _)) (fun r X Q q => ?_)
        obtain ⟨v, rfl, hv, hM⟩ := q
        refine T_al d_L_law_553 rfl ?_
        refine T_al d_L_law_554 rfl ?_
        refine T_il d_L_law_555 rfl ?_
        refine T_k d_L_law_556 ?_
        refine T_iadd d_L_law_557 ?_
        refine T_sald (j := 0) (n := gN G) d_L_law_558 (by decide) rfl (by omega) ⟨by omega, by omega⟩ (sx_v G _) ?_
        refine T_al d_L_law_559 rfl ?_
        refine T_il d_L_law_560 rfl ?_
        refine T_k d_L_law_561 ?_
        refine T_iadd d_L_law_562 ?_
        refine T_sald (j := 0) (n := gN G) d_L_law_563 (by decide) rfl (by omega) ⟨by omega, by omega⟩ (sx_v G _) ?_
        refine T_al d_L_law_564 rfl ?_
        refine T_il d_L_law_565 rfl ?_
        refine T_k d_L_law_566 ?_
        refine T_iadd d_L_law_567 ?_
        refine T_sald (j := 0) (n := gN G) d_L_law_568 (by decide) rfl (by omega) ⟨by omega, by omega⟩ (sx_v G _) ?_
        refine T_al d_L_law_569 rfl ?_
        refine T_il d_L_law_570 rfl ?_
        refine T_k d_L_law_571 ?_
        refine T_iadd d_L_law_572 ?_
        refine T_sald (j := 0) (n := gN G) d_L_law_573 (by decide) rfl (by omega) ⟨by omega, by omega⟩ (sx_v G _) ?_
        refine T_al d_L_law_574 rfl ?_
        refine T_il d_L_law_575 rfl ?_
        refine T_k d_L_law_576 ?_
        refine T_iadd d_L_law_577 ?_
        refine T_sald (j := 0) (n := gN G) d_L_law_578 (by decide) rfl (by omega) ⟨by omega, by omega⟩ (sx_v G _) ?_
        refine C_v5 d_L_law_579 rfl ⟨by decide, by decide⟩ law_hc hM (fun r2 Y Q2 q2 => ?_)
        obtain ⟨rfl, hI2⟩ := q2
        exact T_ieq d_L_law_582 hv hv (fun _ => L1224 Y Q2 hI2) (fun z => absurd rfl z)
      · refine T_swi d_L_law_33 hw (by omega) (by omega) (tg := 587) (by rw [e33_9]; rfl) ?_
        refine T_al d_L_law_587 rfl ?_
        refine T_al d_L_law_588 rfl ?_
        refine T_il d_L_law_589 rfl ?_
        refine T_k d_L_law_590 ?_
        refine T_iadd d_L_law_591 ?_
        refine T_sald (j := 0) (n := gN G) d_L_law_592 (by decide) rfl (by omega) ⟨by omega, by omega⟩ (sx_v G _) ?_
        refine C_v1 d_L_law_593 rfl ⟨by decide, by decide⟩ law_hc (pr_end hI (sx_r G _)) (fun r X Q q => ?_)
        obtain ⟨v, rfl, hv, hM⟩ := q
        refine T_al d_L_law_596 rfl ?_
        refine T_al d_L_law_597 rfl ?_
        refine T_il d_L_law_598 rfl ?_
        refine T_k d_L_law_599 ?_
        refine T_iadd d_L_law_600 ?_
        refine T_sald (j := 0) (n := gN G) d_L_law_601 (by decide) rfl (by omega) ⟨by omega, by omega⟩ (sx_v G _) ?_
        refine C_v1 d_L_law_602 rfl ⟨by decide, by decide⟩ law_hc hM (fun r2 Y Q2 q2 => ?_)
        obtain ⟨rfl, hI2⟩ := q2
        exact T_ieq d_L_law_605 hv hv (fun _ => L1224 Y Q2 hI2) (fun z => absurd rfl z)
      · refine T_swi d_L_law_33 hw (by omega) (by omega) (tg := 610) (by rw [e33_10]; rfl) ?_
        refine T_al d_L_law_610 rfl ?_
        refine C_v0 d_L_law_611 rfl ⟨by decide, by decide⟩ law_hc (pr_kinds hI) (fun r X Q q => ?_)
        obtain ⟨v, rfl, hv, hM⟩ := q
        refine T_al d_L_law_614 rfl ?_
        refine C_v0 d_L_law_615 rfl ⟨by decide, by decide⟩ law_hc hM (fun r2 Y Q2 q2 => ?_)
        obtain ⟨rfl, hI2⟩ := q2
        exact T_ieq d_L_law_618 hv hv (fun _ => L1224 Y Q2 hI2) (fun z => absurd rfl z)
      · refine T_swi d_L_law_33 hw (by omega) (by omega) (tg := 623) (by rw [e33_11]; rfl) ?_
        refine T_al d_L_law_623 rfl ?_
        refine C_v0 d_L_law_624 rfl ⟨by decide, by decide⟩ law_hc (pr_fault hI) (fun r X Q q => ?_)
        obtain ⟨v, rfl, hv, hM⟩ := q
        refine T_al d_L_law_627 rfl ?_
        refine C_v0 d_L_law_628 rfl ⟨by decide, by decide⟩ law_hc hM (fun r2 Y Q2 q2 => ?_)
        obtain ⟨rfl, hI2⟩ := q2
        exact T_ieq d_L_law_631 hv hv (fun _ => L1224 Y Q2 hI2) (fun z => absurd rfl z)
      · refine T_swi d_L_law_33 hw (by omega) (by omega) (tg := 636) (by rw [e33_12]; rfl) ?_
        refine T_al d_L_law_636 rfl ?_
        refine T_al d_L_law_637 rfl ?_
        refine T_il d_L_law_638 rfl ?_
        refine T_k d_L_law_639 ?_
        refine T_iadd d_L_law_640 ?_
        refine T_sald (j := 0) (n := gN G) d_L_law_641 (by decide) rfl (by omega) ⟨by omega, by omega⟩ (sx_v G _) ?_
        refine C_v1 d_L_law_642 rfl ⟨by decide, by decide⟩ law_hc (pr_houses hI (sx_r G _)) (fun r X Q q => ?_)
        obtain ⟨v, rfl, hv, hM⟩ := q
        refine T_al d_L_law_645 rfl ?_
        refine T_al d_L_law_646 rfl ?_
        refine T_il d_L_law_647 rfl ?_
        refine T_k d_L_law_648 ?_
        refine T_iadd d_L_law_649 ?_
        refine T_sald (j := 0) (n := gN G) d_L_law_650 (by decide) rfl (by omega) ⟨by omega, by omega⟩ (sx_v G _) ?_
        refine C_v1 d_L_law_651 rfl ⟨by decide, by decide⟩ law_hc hM (fun r2 Y Q2 q2 => ?_)
        obtain ⟨rfl, hI2⟩ := q2
        exact T_ieq d_L_law_654 hv hv (fun _ => L1224 Y Q2 hI2) (fun z => absurd rfl z)
      · refine T_swi d_L_law_33 hw (by omega) (by omega) (tg := 659) (by rw [e33_13]; rfl) ?_
        refine T_al d_L_law_659 rfl ?_
        refine T_al d_L_law_660 rfl ?_
        refine T_il d_L_law_661 rfl ?_
        refine T_k d_L_law_662 ?_
        refine T_iadd d_L_law_663 ?_
        refine T_sald (j := 0) (n := gN G) d_L_law_664 (by decide) rfl (by omega) ⟨by omega, by omega⟩ (sx_v G _) ?_
        refine T_al d_L_law_665 rfl ?_
        refine T_il d_L_law_666 rfl ?_
        refine T_k d_L_law_667 ?_
        refine T_iadd d_L_law_668 ?_
        refine T_sald (j := 0) (n := gN G) d_L_law_669 (by decide) rfl (by omega) ⟨by omega, by omega⟩ (sx_v G _) ?_
        refine T_al d_L_law_670 rfl ?_
        refine T_il d_L_law_671 rfl ?_
        refine T_k d_L_law_672 ?_
        refine T_iadd d_L_law_673 ?_
        refine T_sald (j := 0) (n := gN G) d_L_law_674 (by decide) rfl (by omega) ⟨by omega, by omega⟩ (sx_v G _) ?_
        refine C_v3 d_L_law_675 rfl ⟨by decide, by decide⟩ law_hc (pr_house hI (sx_r G _) (sx_r G _) (sx_r G _)) (fun r X Q q => ?_)
        obtain ⟨v, rfl, hv, hM⟩ := q
        refine T_al d_L_law_678 rfl ?_
        refine T_al d_L_law_679 rfl ?_
        refine T_il d_L_law_680 rfl ?_
        refine T_k d_L_law_681 ?_
        refine T_iadd d_L_law_682 ?_
        refine T_sald (j := 0) (n := gN G) d_L_law_683 (by decide) rfl (by omega) ⟨by omega, by omega⟩ (sx_v G _) ?_
        refine T_al d_L_law_684 rfl ?_
        refine T_il d_L_law_685 rfl ?_
        refine T_k d_L_law_686 ?_
        refine T_iadd d_L_law_687 ?_
        refine T_sald (j := 0) (n := gN G) d_L_law_688 (by decide) rfl (by omega) ⟨by omega, by omega⟩ (sx_v G _) ?_
        refine T_al d_L_law_689 rfl ?_
        refine T_il d_L_law_690 rfl ?_
        refine T_k d_L_law_691 ?_
        refine T_iadd d_L_law_692 ?_
        refine T_sald (j := 0) (n := gN G) d_L_law_693 (by decide) rfl (by omega) ⟨by omega, by omega⟩ (sx_v G _) ?_
        refine C_v3 d_L_law_694 rfl ⟨by decide, by decide⟩ law_hc hM (fun r2 Y Q2 q2 => ?_)
        obtain ⟨rfl, hI2⟩ := q2
        exact T_ieq d_L_law_697 hv hv (fun _ => L1224 Y Q2 hI2) (fun z => absurd rfl z)
      · refine T_swi d_L_law_33 hw (by omega) (by omega) (tg := 702) (by rw [e33_14]; rfl) ?_
        refine T_al d_L_law_702 rfl ?_
        refine T_al d_L_law_703 rfl ?_
        refine T_il d_L_law_704 rfl ?_
        refine T_k d_L_law_705 ?_
        refine T_iadd d_L_law_706 ?_
        refine T_sald (j := 0) (n := gN G) d_L_law_707 (by decide) rfl (by omega) ⟨by omega, by omega⟩ (sx_v G _) ?_
        refine T_al d_L_law_708 rfl ?_
        refine T_il d_L_law_709 rfl ?_
        refine T_k d_L_law_710 ?_
        refine T_iadd d_L_law_711 ?_
        refine T_sald (j := 0) (n := gN G) d_L_law_712 (by decide) rfl (by omega) ⟨by omega, by omega⟩ (sx_v G _) ?_
        refine T_al d_L_law_713 rfl ?_
        refine T_il d_L_law_714 rfl ?_
        refine T_k d_L_law_715 ?_
        refine T_iadd d_L_law_716 ?_
        refine T_sald (j := 0) (n := gN G) d_L_law_717 (by decide) rfl (by omega) ⟨by omega, by omega⟩ (sx_v G _) ?_
        refine T_al d_L_law_718 rfl ?_
        refine T_il d_L_law_719 rfl ?_
        refine T_k d_L_law_720 ?_
        refine T_iadd d_L_law_721 ?_
        refine T_sald (j := 0) (n := gN G) d_L_law_722 (by decide) rfl (by omega) ⟨by omega, by omega⟩ (sx_v G _) ?_
        refine C_v4 d_L_law_723 rfl ⟨by decide, by decide⟩ law_hc (pr_place hI (sx_r G _) (sx_r G _) (sx_r G _) (sx_r G _)) (fun r X Q q => ?_)
        obtain ⟨v, rfl, hv, hM⟩ := q
        refine T_al d_L_law_726 rfl ?_
        refine T_al d_L_law_727 rfl ?_
        refine T_il d_L_law_728 rfl ?_
        refine T_k d_L_law_729 ?_
        refine T_iadd d_L_law_730 ?_
        refine T_sald (j := 0) (n := gN G) d_L_law_731 (by decide) rfl (by omega) ⟨by omega, by omega⟩ (sx_v G _) ?_
        refine T_al d_L_law_732 rfl ?_
        refine T_il d_L_law_733 rfl ?_
        refine T_k d_L_law_734 ?_
        refine T_iadd d_L_law_735 ?_
        refine T_sald (j := 0) (n := gN G) d_L_law_736 (by decide) rfl (by omega) ⟨by omega, by omega⟩ (sx_v G _) ?_
        refine T_al d_L_law_737 rfl ?_
        refine T_il d_L_law_738 rfl ?_
        refine T_k d_L_law_739 ?_
        refine T_iadd d_L_law_740 ?_
        refine T_sald (j := 0) (n := gN G) d_L_law_741 (by decide) rfl (by omega) ⟨by omega, by omega⟩ (sx_v G _) ?_
        refine T_al d_L_law_742 rfl ?_
        refine T_il d_L_law_743 rfl ?_
        refine T_k d_L_law_744 ?_
        refine T_iadd d_L_law_745 ?_
        refine T_sald (j := 0) (n := gN G) d_L_law_746 (by decide) rfl (by omega) ⟨by omega, by omega⟩ (sx_v G _) ?_
        refine C_v4 d_L_law_747 rfl ⟨by decide, by decide⟩ law_hc hM (fun r2 Y Q2 q2 => ?_)
        obtain ⟨rfl, hI2⟩ := q2
        exact T_ieq d_L_law_750 hv hv (fun _ => L1224 Y Q2 hI2) (fun z => absurd rfl z)
      · refine T_swi d_L_law_33 hw (by omega) (by omega) (tg := 755) (by rw [e33_15]; rfl) ?_
        refine T_al d_L_law_755 rfl ?_
        refine T_al d_L_law_756 rfl ?_
        refine T_il d_L_law_757 rfl ?_
        refine T_k d_L_law_758 ?_
        refine T_iadd d_L_law_759 ?_
        refine T_sald (j := 0) (n := gN G) d_L_law_760 (by decide) rfl (by omega) ⟨by omega, by omega⟩ (sx_v G _) ?_
        refine T_al d_L_law_761 rfl ?_
        refine T_il d_L_law_762 rfl ?_
        refine T_k d_L_law_763 ?_
        refine T_iadd d_L_law_764 ?_
        refine T_sald (j := 0) (n := gN G) d_L_law_765 (by decide) rfl (by omega) ⟨by omega, by omega⟩ (sx_v G _) ?_
        refine C_v2 d_L_law_766 rfl ⟨by decide, by decide⟩ law_hc (pr_explained hI (sx_r G _) (sx_r G _)) (fun r X Q q => ?_)
        obtain ⟨v, rfl, hv, hM⟩ := q
        refine T_al d_L_law_769 rfl ?_
        refine T_al d_L_law_770 rfl ?_
        refine T_il d_L_law_771 rfl ?_
        refine T_k d_L_law_772 ?_
        refine T_iadd d_L_law_773 ?_
        refine T_sald (j := 0) (n := gN G) d_L_law_774 (by decide) rfl (by omega) ⟨by omega, by omega⟩ (sx_v G _) ?_
        refine T_al d_L_law_775 rfl ?_
        refine T_il d_L_law_776 rfl ?_
        refine T_k d_L_law_777 ?_
        refine T_iadd d_L_law_778 ?_
        refine T_sald (j := 0) (n := gN G) d_L_law_779 (by decide) rfl (by omega) ⟨by omega, by omega⟩ (sx_v G _) ?_
        refine C_v2 d_L_law_780 rfl ⟨by decide, by decide⟩ law_hc hM (fun r2 Y Q2 q2 => ?_)
        obtain ⟨rfl, hI2⟩ := q2
        exact T_ieq d_L_law_783 hv hv (fun _ => L1224 Y Q2 hI2) (fun z => absurd rfl z)
      · refine T_swi d_L_law_33 hw (by omega) (by omega) (tg := 788) (by rw [e33_16]; rfl) ?_
        refine T_al d_L_law_788 rfl ?_
        refine T_al d_L_law_789 rfl ?_
        refine T_il d_L_law_790 rfl ?_
        refine T_k d_L_law_791 ?_
        refine T_iadd d_L_law_792 ?_
        refine T_sald (j := 0) (n := gN G) d_L_law_793 (by decide) rfl (by omega) ⟨by omega, by omega⟩ (sx_v G _) ?_
        refine T_al d_L_law_794 rfl ?_
        refine T_il d_L_law_795 rfl ?_
        refine T_k d_L_law_796 ?_
        refine T_iadd d_L_law_797 ?_
        refine T_sald (j := 0) (n := gN G) d_L_law_798 (by decide) rfl (by omega) ⟨by omega, by omega⟩ (sx_v G _) ?_
        refine C_v2 d_L_law_799 rfl ⟨by decide, by decide⟩ law_hc (pr_strength hI (sx_r G _) (sx_r G _)) (fun r X Q q => ?_)
        obtain ⟨v, rfl, hv, hM⟩ := q
        refine T_al d_L_law_802 rfl ?_
        refine T_al d_L_law_803 rfl ?_
        refine T_il d_L_law_804 rfl ?_
        refine T_k d_L_law_805 ?_
        refine T_iadd d_L_law_806 ?_
        refine T_sald (j := 0) (n := gN G) d_L_law_807 (by decide) rfl (by omega) ⟨by omega, by omega⟩ (sx_v G _) ?_
        refine T_al d_L_law_808 rfl ?_
        refine T_il d_L_law_809 rfl ?_
        refine T_k d_L_law_810 ?_
        refine T_iadd d_L_law_811 ?_
        refine T_sald (j := 0) (n := gN G) d_L_law_812 (by decide) rfl (by omega) ⟨by omega, by omega⟩ (sx_v G _) ?_
        refine C_v2 d_L_law_813 rfl ⟨by decide, by decide⟩ law_hc hM (fun r2 Y Q2 q2 => ?_)
        obtain ⟨rfl, hI2⟩ := q2
        exact T_ieq d_L_law_816 hv hv (fun _ => L1224 Y Q2 hI2) (fun z => absurd rfl z)
      · refine T_swi d_L_law_33 hw (by omega) (by omega) (tg := 821) (by rw [e33_17]; rfl) ?_
        refine T_al d_L_law_821 rfl ?_
        refine T_al d_L_law_822 rfl ?_
        refine T_il d_L_law_823 rfl ?_
        refine T_k d_L_law_824 ?_
        refine T_iadd d_L_law_825 ?_
        refine T_sald (j := 0) (n := gN G) d_L_law_826 (by decide) rfl (by omega) ⟨by omega, by omega⟩ (sx_v G _) ?_
        refine T_al d_L_law_827 rfl ?_
        refine T_il d_L_law_828 rfl ?_
        refine T_k d_L_law_829 ?_
        refine T_iadd d_L_law_830 ?_
        refine T_sald (j := 0) (n := gN G) d_L_law_831 (by decide) rfl (by omega) ⟨by omega, by omega⟩ (sx_v G _) ?_
        refine T_al d_L_law_832 rfl ?_
        refine T_il d_L_law_833 rfl ?_
        refine T_k d_L_law_834 ?_
        refine T_iadd d_L_law_835 ?_
        refine T_sald (j := 0) (n := gN G) d_L_law_836 (by decide) rfl (by omega) ⟨by omega, by omega⟩ (sx_v G _) ?_
        refine C_v3 d_L_law_837 rfl ⟨by decide, by decide⟩ law_hc (pr_cut hI (sx_r G _) (sx_r G _) (sx_r G _)) (fun r X Q q => ?_)
        obtain ⟨v, rfl, hv, hM⟩ := q
        refine T_al d_L_law_840 rfl ?_
        refine T_al d_L_law_841 rfl ?_
        refine T_il d_L_law_842 rfl ?_
        refine T_k d_L_law_843 ?_
        refine T_iadd d_L_law_844 ?_
        refine T_sald (j := 0) (n := gN G) d_L_law_845 (by decide) rfl (by omega) ⟨by omega, by omega⟩ (sx_v G _) ?_
        refine T_al d_L_law_846 rfl ?_
        refine T_il d_L_law_847 rfl ?_
        refine T_k d_L_law_848 ?_
        refine T_iadd d_L_law_849 ?_
        refine T_sald (j := 0) (n := gN G) d_L_law_850 (by decide) rfl (by omega) ⟨by omega, by omega⟩ (sx_v G _) ?_
        refine T_al d_L_law_851 rfl ?_
        refine T_il d_L_law_852 rfl ?_
        refine T_k d_L_law_853 ?_
        refine T_iadd d_L_law_854 ?_
        refine T_sald (j := 0) (n := gN G) d_L_law_855 (by decide) rfl (by omega) ⟨by omega, by omega⟩ (sx_v G _) ?_
        refine C_v3 d_L_law_856 rfl ⟨by decide, by decide⟩ law_hc hM (fun r2 Y Q2 q2 => ?_)
        obtain ⟨rfl, hI2⟩ := q2
        exact T_ieq d_L_law_859 hv hv (fun _ => L1224 Y Q2 hI2) (fun z => absurd rfl z)
      · refine T_swi d_L_law_33 hw (by omega) (by omega) (tg := 864) (by rw [e33_18]; rfl) ?_
        refine T_al d_L_law_864 rfl ?_
        refine T_al d_L_law_865 rfl ?_
        refine T_il d_L_law_866 rfl ?_
        refine T_k d_L_law_867 ?_
        refine T_iadd d_L_law_868 ?_
        refine T_sald (j := 0) (n := gN G) d_L_law_869 (by decide) rfl (by omega) ⟨by omega, by omega⟩ (sx_v G _) ?_
        refine T_al d_L_law_870 rfl ?_
        refine T_il d_L_law_871 rfl ?_
        refine T_k d_L_law_872 ?_
        refine T_iadd d_L_law_873 ?_
        refine T_sald (j := 0) (n := gN G) d_L_law_874 (by decide) rfl (by omega) ⟨by omega, by omega⟩ (sx_v G _) ?_
        refine T_al d_L_law_875 rfl ?_
        refine T_il d_L_law_876 rfl ?_
        refine T_k d_L_law_877 ?_
        refine T_iadd d_L_law_878 ?_
        refine T_sald (j := 0) (n := gN G) d_L_law_879 (by decide) rfl (by omega) ⟨by omega, by omega⟩ (sx_v G _) ?_
        refine T_al d_L_law_880 rfl ?_
        refine T_il d_L_law_881 rfl ?_
        refine T_k d_L_law_882 ?_
        refine T_iadd d_L_law_883 ?_
        refine T_sald (j := 0) (n := gN G) d_L_law_884 (by decide) rfl (by omega) ⟨by omega, by omega⟩ (sx_v G _) ?_
        refine C_v4 d_L_law_885 rfl ⟨by decide, by decide⟩ law_hc (pr_pair hI (sx_r G _) (sx_r G _) (sx_r G _) (sx_r G _)) (fun r X Q q => ?_)
        obtain ⟨v, rfl, hv, hM⟩ := q
        refine T_al d_L_law_888 rfl ?_
        refine T_al d_L_law_889 rfl ?_
        refine T_il d_L_law_890 rfl ?_
        refine T_k d_L_law_891 ?_
        refine T_iadd d_L_law_892 ?_
        refine T_sald (j := 0) (n := gN G) d_L_law_893 (by decide) rfl (by omega) ⟨by omega, by omega⟩ (sx_v G _) ?_
        refine T_al d_L_law_894 rfl ?_
        refine T_il d_L_law_895 rfl ?_
        refine T_k d_L_law_896 ?_
        refine T_iadd d_L_law_897 ?_
        refine T_sald (j := 0) (n := gN G) d_L_law_898 (by decide) rfl (by omega) ⟨by omega, by omega⟩ (sx_v G _) ?_
        refine T_al d_L_law_899 rfl ?_
        refine T_il d_L_law_900 rfl ?_
        refine T_k d_L_law_901 ?_
        refine T_iadd d_L_law_902 ?_
        refine T_sald (j := 0) (n := gN G) d_L_law_903 (by decide) rfl (by omega) ⟨by omega, by omega⟩ (sx_v G _) ?_
        refine T_al d_L_law_904 rfl ?_
        refine T_il d_L_law_905 rfl ?_
        refine T_k d_L_law_906 ?_
        refine T_iadd d_L_law_907 ?_
        refine T_sald (j := 0) (n := gN G) d_L_law_908 (by decide) rfl (by omega) ⟨by omega, by omega⟩ (sx_v G _) ?_
        refine C_v4 d_L_law_909 rfl ⟨by decide, by decide⟩ law_hc hM (fun r2 Y Q2 q2 => ?_)
        obtain ⟨rfl, hI2⟩ := q2
        exact T_ieq d_L_law_912 hv hv (fun _ => L1224 Y Q2 hI2) (fun z => absurd rfl z)
      · refine T_swi d_L_law_33 hw (by omega) (by omega) (tg := 917) (by rw [e33_19]; rfl) ?_
        refine T_al d_L_law_917 rfl ?_
        refine T_al d_L_law_918 rfl ?_
        refine T_il d_L_law_919 rfl ?_
        refine T_k d_L_law_920 ?_
        refine T_iadd d_L_law_921 ?_
        refine T_sald (j := 0) (n := gN G) d_L_law_922 (by decide) rfl (by omega) ⟨by omega, by omega⟩ (sx_v G _) ?_
        refine T_al d_L_law_923 rfl ?_
        refine T_il d_L_law_924 rfl ?_
        refine T_k d_L_law_925 ?_
        refine T_iadd d_L_law_926 ?_
        refine T_sald (j := 0) (n := gN G) d_L_law_927 (by decide) rfl (by omega) ⟨by omega, by omega⟩ (sx_v G _) ?_
        refine C_v2 d_L_law_928 rfl ⟨by decide, by decide⟩ law_hc (pr_phases hI (sx_r G _) (sx_r G _)) (fun r X Q q => ?_)
        obtain ⟨v, rfl, hv, hM⟩ := q
        refine T_al d_L_law_931 rfl ?_
        refine T_al d_L_law_932 rfl ?_
        refine T_il d_L_law_933 rfl ?_
        refine T_k d_L_law_934 ?_
        refine T_iadd d_L_law_935 ?_
        refine T_sald (j := 0) (n := gN G) d_L_law_936 (by decide) rfl (by omega) ⟨by omega, by omega⟩ (sx_v G _) ?_
        refine T_al d_L_law_937 rfl ?_
        refine T_il d_L_law_938 rfl ?_
        refine T_k d_L_law_939 ?_
        refine T_iadd d_L_law_940 ?_
        refine T_sald (j := 0) (n := gN G) d_L_law_941 (by decide) rfl (by omega) ⟨by omega, by omega⟩ (sx_v G _) ?_
        refine C_v2 d_L_law_942 rfl ⟨by decide, by decide⟩ law_hc hM (fun r2 Y Q2 q2 => ?_)
        obtain ⟨rfl, hI2⟩ := q2
        exact T_ieq d_L_law_945 hv hv (fun _ => L1224 Y Q2 hI2) (fun z => absurd rfl z)
      · refine T_swi d_L_law_33 hw (by omega) (by omega) (tg := 950) (by rw [e33_20]; rfl) ?_
        refine T_al d_L_law_950 rfl ?_
        refine T_al d_L_law_951 rfl ?_
        refine T_il d_L_law_952 rfl ?_
        refine T_k d_L_law_953 ?_
        refine T_iadd d_L_law_954 ?_
        refine T_sald (j := 0) (n := gN G) d_L_law_955 (by decide) rfl (by omega) ⟨by omega, by omega⟩ (sx_v G _) ?_
        refine T_al d_L_law_956 rfl ?_
        refine T_il d_L_law_957 rfl ?_
        refine T_k d_L_law_958 ?_
        refine T_iadd d_L_law_959 ?_
        refine T_sald (j := 0) (n := gN G) d_L_law_960 (by decide) rfl (by omega) ⟨by omega, by omega⟩ (sx_v G _) ?_
        refine C_v2 d_L_law_961 rfl ⟨by decide, by decide⟩ law_hc (pr_phase hI (sx_r G _) (sx_r G _)) (fun r X Q q => ?_)
        obtain ⟨v, rfl, hv, hM⟩ := q
        refine T_al d_L_law_964 rfl ?_
        refine T_al d_L_law_965 rfl ?_
        refine T_il d_L_law_966 rfl ?_
        refine T_k d_L_law_967 ?_
        refine T_iadd d_L_law_968 ?_
        refine T_sald (j := 0) (n := gN G) d_L_law_969 (by decide) rfl (by omega) ⟨by omega, by omega⟩ (sx_v G _) ?_
        refine T_al d_L_law_970 rfl ?_
        refine T_il d_L_law_971 rfl ?_
        refine T_k d_L_law_972 ?_
        refine T_iadd d_L_law_973 ?_
        refine T_sald (j := 0) (n := gN G) d_L_law_974 (by decide) rfl (by omega) ⟨by omega, by omega⟩ (sx_v G _) ?_
        refine C_v2 d_L_law_975 rfl ⟨by decide, by decide⟩ law_hc hM (fun r2 Y Q2 q2 => ?_)
        obtain ⟨rfl, hI2⟩ := q2
        exact T_ieq d_L_law_978 hv hv (fun _ => L1224 Y Q2 hI2) (fun z => absurd rfl z)
      · refine T_swi d_L_law_33 hw (by omega) (by omega) (tg := 983) (by rw [e33_21]; rfl) ?_
        refine T_al d_L_law_983 rfl ?_
        refine T_al d_L_law_984 rfl ?_
        refine T_il d_L_law_985 rfl ?_
        refine T_k d_L_law_986 ?_
        refine T_iadd d_L_law_987 ?_
        refine T_sald (j := 0) (n := gN G) d_L_law_988 (by decide) rfl (by omega) ⟨by omega, by omega⟩ (sx_v G _) ?_
        refine T_al d_L_law_989 rfl ?_
        refine T_il d_L_law_990 rfl ?_
        refine T_k d_L_law_991 ?_
        refine T_iadd d_L_law_992 ?_
        refine T_sald (j := 0) (n := gN G) d_L_law_993 (by decide) rfl (by omega) ⟨by omega, by omega⟩ (sx_v G _) ?_
        refine T_al d_L_law_994 rfl ?_
        refine T_il d_L_law_995 rfl ?_
        refine T_k d_L_law_996 ?_
        refine T_iadd d_L_law_997 ?_
        refine T_sald (j := 0) (n := gN G) d_L_law_998 (by decide) rfl (by omega) ⟨by omega, by omega⟩ (sx_v G _) ?_
        refine T_al d_L_law_999 rfl ?_
        refine T_il d_L_law_1000 rfl ?_
        refine T_k d_L_law_1001 ?_
        refine T_iadd d_L_law_1002 ?_
        refine T_sald (j := 0) (n := gN G) d_L_law_1003 (by decide) rfl (by omega) ⟨by omega, by omega⟩ (sx_v G _) ?_
        refine C_v4 d_L_law_1004 rfl ⟨by decide, by decide⟩ law_hc (pr_date hI (sx_r G _) (sx_r G _) (sx_r G _) (sx_r G _)) (fun r X Q q => ?_)
        obtain ⟨v, rfl, hv, hM⟩ := q
        refine T_al d_L_law_1007 rfl ?_
        refine T_al d_L_law_1008 rfl ?_
        refine T_il d_L_law_1009 rfl ?_
        refine T_k d_L_law_1010 ?_
        refine T_iadd d_L_law_1011 ?_
        refine T_sald (j := 0) (n := gN G) d_L_law_1012 (by decide) rfl (by omega) ⟨by omega, by omega⟩ (sx_v G _) ?_
        refine T_al d_L_law_1013 rfl ?_
        refine T_il d_L_law_1014 rfl ?_
        refine T_k d_L_law_1015 ?_
        refine T_iadd d_L_law_1016 ?_
        refine T_sald (j := 0) (n := gN G) d_L_law_1017 (by decide) rfl (by omega) ⟨by omega, by omega⟩ (sx_v G _) ?_
        refine T_al d_L_law_1018 rfl ?_
        refine T_il d_L_law_1019 rfl ?_
        refine T_k d_L_law_1020 ?_
        refine T_iadd d_L_law_1021 ?_
        refine T_sald (j := 0) (n := gN G) d_L_law_1022 (by decide) rfl (by omega) ⟨by omega, by omega⟩ (sx_v G _) ?_
        refine T_al d_L_law_1023 rfl ?_
        refine T_il d_L_law_1024 rfl ?_
        refine T_k d_L_law_1025 ?_
        refine T_iadd d_L_law_1026 ?_
        refine T_sald (j := 0) (n := gN G) d_L_law_1027 (by decide) rfl (by omega) ⟨by omega, by omega⟩ (sx_v G _) ?_
        refine C_v4 d_L_law_1028 rfl ⟨by decide, by decide⟩ law_hc hM (fun r2 Y Q2 q2 => ?_)
        obtain ⟨rfl, hI2⟩ := q2
        exact T_ieq d_L_law_1031 hv hv (fun _ => L1224 Y Q2 hI2) (fun z => absurd rfl z)
      · refine T_swi d_L_law_33 hw (by omega) (by omega) (tg := 1036) (by rw [e33_22]; rfl) ?_
        refine T_al d_L_law_1036 rfl ?_
        refine T_al d_L_law_1037 rfl ?_
        refine T_il d_L_law_1038 rfl ?_
        refine T_k d_L_law_1039 ?_
        refine T_iadd d_L_law_1040 ?_
        refine T_sald (j := 0) (n := gN G) d_L_law_1041 (by decide) rfl (by omega) ⟨by omega, by omega⟩ (sx_v G _) ?_
        refine T_al d_L_law_1042 rfl ?_
        refine T_il d_L_law_1043 rfl ?_
        refine T_k d_L_law_1044 ?_
        refine T_iadd d_L_law_1045 ?_
        refine T_sald (j := 0) (n := gN G) d_L_law_1046 (by decide) rfl (by omega) ⟨by omega, by omega⟩ (sx_v G _) ?_
        refine T_al d_L_law_1047 rfl ?_
        refine T_il d_L_law_1048 rfl ?_
        refine T_k d_L_law_1049 ?_
        refine T_iadd d_L_law_1050 ?_
        refine T_sald (j := 0) (n := gN G) d_L_law_1051 (by decide) rfl (by omega) ⟨by omega, by omega⟩ (sx_v G _) ?_
        refine C_v3 d_L_law_1052 rfl ⟨by decide, by decide⟩ law_hc (pr_start hI (sx_r G _) (sx_r G _) (sx_r G _)) (fun r X Q q => ?_)
        obtain ⟨v, rfl, hv, hM⟩ := q
        refine T_al d_L_law_1055 rfl ?_
        refine T_al d_L_law_1056 rfl ?_
        refine T_il d_L_law_1057 rfl ?_
        refine T_k d_L_law_1058 ?_
        refine T_iadd d_L_law_1059 ?_
        refine T_sald (j := 0) (n := gN G) d_L_law_1060 (by decide) rfl (by omega) ⟨by omega, by omega⟩ (sx_v G _) ?_
        refine T_al d_L_law_1061 rfl ?_
        refine T_il d_L_law_1062 rfl ?_
        refine T_k d_L_law_1063 ?_
        refine T_iadd d_L_law_1064 ?_
        refine T_sald (j := 0) (n := gN G) d_L_law_1065 (by decide) rfl (by omega) ⟨by omega, by omega⟩ (sx_v G _) ?_
        refine T_al d_L_law_1066 rfl ?_
        refine T_il d_L_law_1067 rfl ?_
        refine T_k d_L_law_1068 ?_
        refine T_iadd d_L_law_1069 ?_
        refine T_sald (j := 0) (n := gN G) d_L_law_1070 (by decide) rfl (by omega) ⟨by omega, by omega⟩ (sx_v G _) ?_
        refine C_v3 d_L_law_1071 rfl ⟨by decide, by decide⟩ law_hc hM (fun r2 Y Q2 q2 => ?_)
        obtain ⟨rfl, hI2⟩ := q2
        exact T_ieq d_L_law_1074 hv hv (fun _ => L1224 Y Q2 hI2) (fun z => absurd rfl z)
      · refine T_swi d_L_law_33 hw (by omega) (by omega) (tg := 1079) (by rw [e33_23]; rfl) ?_
        refine T_al d_L_law_1079 rfl ?_
        refine T_al d_L_law_1080 rfl ?_
        refine T_il d_L_law_1081 rfl ?_
        refine T_k d_L_law_1082 ?_
        refine T_iadd d_L_law_1083 ?_
        refine T_sald (j := 0) (n := gN G) d_L_law_1084 (by decide) rfl (by omega) ⟨by omega, by omega⟩ (sx_v G _) ?_
        refine T_al d_L_law_1085 rfl ?_
        refine T_il d_L_law_1086 rfl ?_
        refine T_k d_L_law_1087 ?_
        refine T_iadd d_L_law_1088 ?_
        refine T_sald (j := 0) (n := gN G) d_L_law_1089 (by decide) rfl (by omega) ⟨by omega, by omega⟩ (sx_v G _) ?_
        refine T_al d_L_law_1090 rfl ?_
        refine T_il d_L_law_1091 rfl ?_
        refine T_k d_L_law_1092 ?_
        refine T_iadd d_L_law_1093 ?_
        refine T_sald (j := 0) (n := gN G) d_L_law_1094 (by decide) rfl (by omega) ⟨by omega, by omega⟩ (sx_v G _) ?_
        refine C_v3 d_L_law_1095 rfl ⟨by decide, by decide⟩ law_hc (pr_stands hI (sx_r G _) (sx_r G _) (sx_r G _)) (fun r X Q q => ?_)
        obtain ⟨v, rfl, hv, hM⟩ := q
        refine T_al d_L_law_1098 rfl ?_
        refine T_al d_L_law_1099 rfl ?_
        refine T_il d_L_law_1100 rfl ?_
        refine T_k d_L_law_1101 ?_
        refine T_iadd d_L_law_1102 ?_
        refine T_sald (j := 0) (n := gN G) d_L_law_1103 (by decide) rfl (by omega) ⟨by omega, by omega⟩ (sx_v G _) ?_
        refine T_al d_L_law_1104 rfl ?_
        refine T_il d_L_law_1105 rfl ?_
        refine T_k d_L_law_1106 ?_
        refine T_iadd d_L_law_1107 ?_
        refine T_sald (j := 0) (n := gN G) d_L_law_1108 (by decide) rfl (by omega) ⟨by omega, by omega⟩ (sx_v G _) ?_
        refine T_al d_L_law_1109 rfl ?_
        refine T_il d_L_law_1110 rfl ?_
        refine T_k d_L_law_1111 ?_
        refine T_iadd d_L_law_1112 ?_
        refine T_sald (j := 0) (n := gN G) d_L_law_1113 (by decide) rfl (by omega) ⟨by omega, by omega⟩ (sx_v G _) ?_
        refine C_v3 d_L_law_1114 rfl ⟨by decide, by decide⟩ law_hc hM (fun r2 Y Q2 q2 => ?_)
        obtain ⟨rfl, hI2⟩ := q2
        exact T_ieq d_L_law_1117 hv hv (fun _ => L1224 Y Q2 hI2) (fun z => absurd rfl z)
      · refine T_swi d_L_law_33 hw (by omega) (by omega) (tg := 1122) (by rw [e33_24]; rfl) ?_
        refine T_al d_L_law_1122 rfl ?_
        refine T_al d_L_law_1123 rfl ?_
        refine T_il d_L_law_1124 rfl ?_
        refine T_k d_L_law_1125 ?_
        refine T_iadd d_L_law_1126 ?_
        refine T_sald (j := 0) (n := gN G) d_L_law_1127 (by decide) rfl (by omega) ⟨by omega, by omega⟩ (sx_v G _) ?_
        refine C_v1 d_L_law_1128 rfl ⟨by decide, by decide⟩ law_hc (pr_fences hI (sx_r G _)) (fun r X Q q => ?_)
        obtain ⟨v, rfl, hv, hM⟩ := q
        refine T_al d_L_law_1131 rfl ?_
        refine T_al d_L_law_1132 rfl ?_
        refine T_il d_L_law_1133 rfl ?_
        refine T_k d_L_law_1134 ?_
        refine T_iadd d_L_law_1135 ?_
        refine T_sald (j := 0) (n := gN G) d_L_law_1136 (by decide) rfl (by omega) ⟨by omega, by omega⟩ (sx_v G _) ?_
        refine C_v1 d_L_law_1137 rfl ⟨by decide, by decide⟩ law_hc hM (fun r2 Y Q2 q2 => ?_)
        obtain ⟨rfl, hI2⟩ := q2
        exact T_ieq d_L_law_1140 hv hv (fun _ => L1224 Y Q2 hI2) (fun z => absurd rfl z)
      · refine T_swi d_L_law_33 hw (by omega) (by omega) (tg := 1145) (by rw [e33_25]; rfl) ?_
        refine T_al d_L_law_1145 rfl ?_
        refine T_al d_L_law_1146 rfl ?_
        refine T_il d_L_law_1147 rfl ?_
        refine T_k d_L_law_1148 ?_
        refine T_iadd d_L_law_1149 ?_
        refine T_sald (j := 0) (n := gN G) d_L_law_1150 (by decide) rfl (by omega) ⟨by omega, by omega⟩ (sx_v G _) ?_
        refine T_al d_L_law_1151 rfl ?_
        refine T_il d_L_law_1152 rfl ?_
        refine T_k d_L_law_1153 ?_
        refine T_iadd d_L_law_1154 ?_
        refine T_sald (j := 0) (n := gN G) d_L_law_1155 (by decide) rfl (by omega) ⟨by omega, by omega⟩ (sx_v G _) ?_
        refine T_al d_L_law_1156 rfl ?_
        refine T_il d_L_law_1157 rfl ?_
        refine T_k d_L_law_1158 ?_
        refine T_iadd d_L_law_1159 ?_
        refine T_sald (j := 0) (n := gN G) d_L_law_1160 (by decide) rfl (by omega) ⟨by omega, by omega⟩ (sx_v G _) ?_
        refine C_v3 d_L_law_1161 rfl ⟨by decide, by decide⟩ law_hc (pr_led hI (sx_r G _) (sx_r G _) (sx_r G _)) (fun r X Q q => ?_)
        obtain ⟨v, rfl, hv, hM⟩ := q
        refine T_al d_L_law_1164 rfl ?_
        refine T_al d_L_law_1165 rfl ?_
        refine T_il d_L_law_1166 rfl ?_
        refine T_k d_L_law_1167 ?_
        refine T_iadd d_L_law_1168 ?_
        refine T_sald (j := 0) (n := gN G) d_L_law_1169 (by decide) rfl (by omega) ⟨by omega, by omega⟩ (sx_v G _) ?_
        refine T_al d_L_law_1170 rfl ?_
        refine T_il d_L_law_1171 rfl ?_
        refine T_k d_L_law_1172 ?_
        refine T_iadd d_L_law_1173 ?_
        refine T_sald (j := 0) (n := gN G) d_L_law_1174 (by decide) rfl (by omega) ⟨by omega, by omega⟩ (sx_v G _) ?_
        refine T_al d_L_law_1175 rfl ?_
        refine T_il d_L_law_1176 rfl ?_
        refine T_k d_L_law_1177 ?_
        refine T_iadd d_L_law_1178 ?_
        refine T_sald (j := 0) (n := gN G) d_L_law_1179 (by decide) rfl (by omega) ⟨by omega, by omega⟩ (sx_v G _) ?_
        refine C_v3 d_L_law_1180 rfl ⟨by decide, by decide⟩ law_hc hM (fun r2 Y Q2 q2 => ?_)
        obtain ⟨rfl, hI2⟩ := q2
        exact T_ieq d_L_law_1183 hv hv (fun _ => L1224 Y Q2 hI2) (fun z => absurd rfl z)
      · refine T_swi d_L_law_33 hw (by omega) (by omega) (tg := 1188) (by rw [e33_26]; rfl) ?_
        refine T_al d_L_law_1188 rfl ?_
        refine T_al d_L_law_1189 rfl ?_
        refine T_il d_L_law_1190 rfl ?_
        refine T_k d_L_law_1191 ?_
        refine T_iadd d_L_law_1192 ?_
        refine T_sald (j := 0) (n := gN G) d_L_law_1193 (by decide) rfl (by omega) ⟨by omega, by omega⟩ (sx_v G _) ?_
        refine C_v1 d_L_law_1194 rfl ⟨by decide, by decide⟩ law_hc (pr_count hI (sx_r G _)) (fun r X Q q => ?_)
        obtain ⟨v, rfl, hv, hM⟩ := q
        refine T_al d_L_law_1197 rfl ?_
        refine T_al d_L_law_1198 rfl ?_
        refine T_il d_L_law_1199 rfl ?_
        refine T_k d_L_law_1200 ?_
        refine T_iadd d_L_law_1201 ?_
        refine T_sald (j := 0) (n := gN G) d_L_law_1202 (by decide) rfl (by omega) ⟨by omega, by omega⟩ (sx_v G _) ?_
        refine C_v1 d_L_law_1203 rfl ⟨by decide, by decide⟩ law_hc hM (fun r2 Y Q2 q2 => ?_)
        obtain ⟨rfl, hI2⟩ := q2
        exact T_ieq d_L_law_1206 hv hv (fun _ => L1224 Y Q2 hI2) (fun z => absurd rfl z)
      · refine T_swi d_L_law_33 hw (by omega) (by omega) (tg := 1211) (by rw [e33_27]; rfl) ?_
        refine T_al d_L_law_1211 rfl ?_
        refine C_v0 d_L_law_1212 rfl ⟨by decide, by decide⟩ law_hc (pr_status hI) (fun r X Q q => ?_)
        obtain ⟨v, rfl, hv, hM⟩ := q
        refine T_al d_L_law_1215 rfl ?_
        refine C_v0 d_L_law_1216 rfl ⟨by decide, by decide⟩ law_hc hM (fun r2 Y Q2 q2 => ?_)
        obtain ⟨rfl, hI2⟩ := q2
        exact T_ieq d_L_law_1219 hv hv (fun _ => L1224 Y Q2 hI2) (fun z => absurd rfl z)
    · refine T_igt d_L_law_24 ⟨by omega, by omega⟩ ⟨by omega, by omega⟩ (fun _ => ?_) (fun z => absurd z (by omega))
      refine T_k d_L_law_1230 ?_
      exact T_end
