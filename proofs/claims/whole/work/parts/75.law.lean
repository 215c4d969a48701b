/-! ===== the law ===== -/
abbrev lvL (i : Nat) : List (Nat × Value) := [(0, .ref 1), (1, .ref 10), (2, .ref 82), (3, .int (nI i))]
section LAWR
variable {G : GW} {M : MK} {d N Z pc : Nat} {st : List Value} {S : HS} {μ : Mem} {K : Option Value → HS → Mem → Prop}
theorem sc_in {i j L : Nat} (h : i + j < L) (hL : L ≤ 3584) : vp_in (nI i + nI j) L ∧ (nI i + nI j).toNatClampNeg = i + j := by
  rw [nI_add]
  exact ⟨vp_nI h (by omega), ix_nI (by omega)⟩
/-- script[i + j] -/
theorem ev_sarg {i j : Nat} {n : Int} (h0 : decode M.2.1 pc = .ok (.aload_n 0, 1)) (h1 : decode M.2.1 (pc + 1) = .ok (.iload_n 3, 1)) (h2 : decode M.2.1 (pc + 1 + 1) = .ok (.iconst n, 1)) (hv : Int32.ofInt n = nI j) (h3 : decode M.2.1 (pc + 1 + 1 + 1) = .ok (.iadd, 1)) (h4 : decode M.2.1 (pc + 1 + 1 + 1 + 1) = .ok (.iaload, 1)) (hj : i + j < G.2.2.2.2.1) (hL : G.2.2.2.2.1 ≤ 3584) (kk : EvW G M d N Z (pc + 5) (lvL i) (.int (G.2.2.2.2.2 (i + j)) :: st) S μ K) : EvW G M d N Z pc (lvL i) st S μ K := by
  obtain ⟨q1, q2⟩ := sc_in hj hL
  refine ev_aload_n h0 0 rfl (by decide) ?_
  refine ev_iload_n h1 3 rfl ?_
  refine ev_iconst h2 hv ?_
  refine ev_iadd h3 ?_
  refine ev_sload q1 h4 ?_
  rw [q2]
  exact kk
theorem ev_sarg6 {i j : Nat} {n : Int} (h0 : decode M.2.1 pc = .ok (.aload_n 0, 1)) (h1 : decode M.2.1 (pc + 1) = .ok (.iload_n 3, 1)) (h2 : decode M.2.1 (pc + 1 + 1) = .ok (.bipush n, 2)) (hv : (Int8.ofInt n).toInt32 = nI j) (h3 : decode M.2.1 (pc + 1 + 1 + 2) = .ok (.iadd, 1)) (h4 : decode M.2.1 (pc + 1 + 1 + 2 + 1) = .ok (.iaload, 1)) (hj : i + j < G.2.2.2.2.1) (hL : G.2.2.2.2.1 ≤ 3584) (kk : EvW G M d N Z (pc + 6) (lvL i) (.int (G.2.2.2.2.2 (i + j)) :: st) S μ K) : EvW G M d N Z pc (lvL i) st S μ K := by
  obtain ⟨q1, q2⟩ := sc_in hj hL
  refine ev_aload_n h0 0 rfl (by decide) ?_
  refine ev_iload_n h1 3 rfl ?_
  refine ev_bipush h2 hv ?_
  refine ev_iadd h3 ?_
  refine ev_sload q1 h4 ?_
  rw [q2]
  exact kk
end LAWR
theorem VM.keptM {α μ ν : Mem} (hf : WF α) (h : VM α μ) (k : keepM μ ν) : VM α ν := h.same hf.1 (fun a k2 ha _ _ => by rw [k a ha])
theorem VX.keptX {α μ ν : Mem} (hf : WF α) (h : VX α μ) (k : keepX μ ν) : VX α ν := h.same hf (fun a k2 ha _ _ => by rw [k a ha])
theorem cmp_self (x : Int64) : lg_cmp x x = 0 := by simp [lg_cmp]
/-- where the loop goes on: some abstract state, shown by both -/
def lawK (G : GW) (i : Nat) (K : Option Value → Mem → Prop) : Prop := ∀ β ν : Mem, WF β → VX β ν → VM β ν → Ev2 G mL_law 80 1612 (lvL i) [] ν K
theorem law_c0 {G : GW} {K : Option Value → Mem → Prop} {α μ : Mem} {i : Nat} (hL : G.2.2.2.2.1 ≤ 3584) (hi : i + 7 ≤ G.2.2.2.2.1) (hf : WF α) (hx : VX α μ) (hm : VM α μ) (kk : lawK G i K) : Ev2 G mL_law 80 208 (lvL i) [] μ K := by
  refine ev_aload_n dL_law_208 1 rfl (by decide) ?_
  refine ev_sarg (j := 1) dL_law_209 dL_law_210 dL_law_211 rfl dL_law_212 dL_law_213 (by omega) hL ?_
  refine ev_sarg (j := 2) dL_law_214 dL_law_215 dL_law_216 rfl dL_law_217 dL_law_218 (by omega) hL ?_
  refine ev_sarg (j := 3) dL_law_219 dL_law_220 dL_law_221 rfl dL_law_222 dL_law_223 (by omega) hL ?_
  refine ev_callV (a := 10) (as := [.int (G.2.2.2.2.2 (i + 1)), .int (G.2.2.2.2.2 (i + 2)), .int (G.2.2.2.2.2 (i + 3))]) (st := []) ok_X7_path vi_X7_path ml_L_13 hcl_7 kd_10 dL_law_224 rfl rfl (Nat.le_of_ble_eq_true rfl) (Nat.le_of_ble_eq_true rfl) (by decide) e_b2 (pb_X7_path hf hx (G.2.2.2.2.2 (i + 1)) (G.2.2.2.2.2 (i + 2)) (G.2.2.2.2.2 (i + 3))) ?_
  rintro v1 S1 μ1 ⟨rfl, rfl, hx1, hk1⟩ - - -
  have hm1 := hm.keptM hf hk1
  refine ev_aload_n dL_law_227 2 rfl (by decide) ?_
  refine ev_sarg (j := 1) dL_law_228 dL_law_229 dL_law_230 rfl dL_law_231 dL_law_232 (by omega) hL ?_
  refine ev_sarg (j := 2) dL_law_233 dL_law_234 dL_law_235 rfl dL_law_236 dL_law_237 (by omega) hL ?_
  refine ev_sarg (j := 3) dL_law_238 dL_law_239 dL_law_240 rfl dL_law_241 dL_law_242 (by omega) hL ?_
  refine ev_callV (a := 82) (as := [.int (G.2.2.2.2.2 (i + 1)), .int (G.2.2.2.2.2 (i + 2)), .int (G.2.2.2.2.2 (i + 3))]) (st := [_]) ok_X8_path vi_X8_path ml_L_17 hcl_8 kd_82 dL_law_243 rfl rfl (Nat.le_of_ble_eq_true rfl) (Nat.le_of_ble_eq_true rfl) (by decide) e_b2 (pb_X8_path hf hm1 (G.2.2.2.2.2 (i + 1)) (G.2.2.2.2.2 (i + 2)) (G.2.2.2.2.2 (i + 3))) ?_
  rintro v2 S2 μ2 ⟨rfl, rfl, hm2, hk2⟩ - - -
  have hw := (wf_path hf (G.2.2.2.2.2 (i + 1)) (G.2.2.2.2.2 (i + 2)) (G.2.2.2.2.2 (i + 3)))
  have hx2 := hx1.keptX hw hk2
  exact ev_icmp_eq (tgt := 1612) dL_law_246 rfl (fun _ => kk _ _ hw hx2 hm2) (fun c => absurd rfl c)
theorem law_c1 {G : GW} {K : Option Value → Mem → Prop} {α μ : Mem} {i : Nat} (hL : G.2.2.2.2.1 ≤ 3584) (hi : i + 7 ≤ G.2.2.2.2.1) (hf : WF α) (hx : VX α μ) (hm : VM α μ) (kk : lawK G i K) : Ev2 G mL_law 80 251 (lvL i) [] μ K := by
  refine ev_aload_n dL_law_251 1 rfl (by decide) ?_
  refine ev_sarg (j := 1) dL_law_252 dL_law_253 dL_law_254 rfl dL_law_255 dL_law_256 (by omega) hL ?_
  refine ev_sarg (j := 2) dL_law_257 dL_law_258 dL_law_259 rfl dL_law_260 dL_law_261 (by omega) hL ?_
  refine ev_callV (a := 10) (as := [.int (G.2.2.2.2.2 (i + 1)), .int (G.2.2.2.2.2 (i + 2))]) (st := []) ok_X7_pathTold vi_X7_pathTold ml_L_18 hcl_7 kd_10 dL_law_262 rfl rfl (Nat.le_of_ble_eq_true rfl) (Nat.le_of_ble_eq_true rfl) (by decide) e_b2 (pb_X7_pathTold hf hx (G.2.2.2.2.2 (i + 1)) (G.2.2.2.2.2 (i + 2))) ?_
  rintro v1 S1 μ1 ⟨rfl, rfl, hx1, hk1⟩ - - -
  have hm1 := hm.keptM hf hk1
  refine ev_aload_n dL_law_265 2 rfl (by decide) ?_
  refine ev_sarg (j := 1) dL_law_266 dL_law_267 dL_law_268 rfl dL_law_269 dL_law_270 (by omega) hL ?_
  refine ev_sarg (j := 2) dL_law_271 dL_law_272 dL_law_273 rfl dL_law_274 dL_law_275 (by omega) hL ?_
  refine ev_callV (a := 82) (as := [.int (G.2.2.2.2.2 (i + 1)), .int (G.2.2.2.2.2 (i + 2))]) (st := [_]) ok_X8_pathTold vi_X8_pathTold ml_L_22 hcl_8 kd_82 dL_law_276 rfl rfl (Nat.le_of_ble_eq_true rfl) (Nat.le_of_ble_eq_true rfl) (by decide) e_b2 (pb_X8_pathTold hf hm1 (G.2.2.2.2.2 (i + 1)) (G.2.2.2.2.2 (i + 2))) ?_
  rintro v2 S2 μ2 ⟨rfl, rfl, hm2, hk2⟩ - - -
  have hw := hf
  have hx2 := hx1.keptX hw hk2
  exact ev_icmp_eq (tgt := 1612) dL_law_279 rfl (fun _ => kk _ _ hw hx2 hm2) (fun c => absurd rfl c)
theorem law_c2 {G : GW} {K : Option Value → Mem → Prop} {α μ : Mem} {i : Nat} (hL : G.2.2.2.2.1 ≤ 3584) (hi : i + 7 ≤ G.2.2.2.2.1) (hf : WF α) (hx : VX α μ) (hm : VM α μ) (kk : lawK G i K) : Ev2 G mL_law 80 284 (lvL i) [] μ K := by
  refine ev_aload_n dL_law_284 1 rfl (by decide) ?_
  refine ev_sarg (j := 1) dL_law_285 dL_law_286 dL_law_287 rfl dL_law_288 dL_law_289 (by omega) hL ?_
  refine ev_sarg (j := 2) dL_law_290 dL_law_291 dL_law_292 rfl dL_law_293 dL_law_294 (by omega) hL ?_
  refine ev_callV (a := 10) (as := [.int (G.2.2.2.2.2 (i + 1)), .int (G.2.2.2.2.2 (i + 2))]) (st := []) ok_X7_ride vi_X7_ride ml_L_23 hcl_7 kd_10 dL_law_295 rfl rfl (Nat.le_of_ble_eq_true rfl) (Nat.le_of_ble_eq_true rfl) (by decide) e_b2 (pb_X7_ride hf hx (G.2.2.2.2.2 (i + 1)) (G.2.2.2.2.2 (i + 2))) ?_
  rintro v1 S1 μ1 ⟨rfl, rfl, hx1, hk1⟩ - - -
  have hm1 := hm.keptM hf hk1
  refine ev_aload_n dL_law_298 2 rfl (by decide) ?_
  refine ev_sarg (j := 1) dL_law_299 dL_law_300 dL_law_301 rfl dL_law_302 dL_law_303 (by omega) hL ?_
  refine ev_sarg (j := 2) dL_law_304 dL_law_305 dL_law_306 rfl dL_law_307 dL_law_308 (by omega) hL ?_
  refine ev_callV (a := 82) (as := [.int (G.2.2.2.2.2 (i + 1)), .int (G.2.2.2.2.2 (i + 2))]) (st := [_]) ok_X8_ride vi_X8_ride ml_L_26 hcl_8 kd_82 dL_law_309 rfl rfl (Nat.le_of_ble_eq_true rfl) (Nat.le_of_ble_eq_true rfl) (by decide) e_b2 (pb_X8_ride hf hm1 (G.2.2.2.2.2 (i + 1)) (G.2.2.2.2.2 (i + 2))) ?_
  rintro v2 S2 μ2 ⟨rfl, rfl, hm2, hk2⟩ - - -
  have hw := (wf_ride hf (G.2.2.2.2.2 (i + 1)) (G.2.2.2.2.2 (i + 2)))
  have hx2 := hx1.keptX hw hk2
  exact ev_icmp_eq (tgt := 1612) dL_law_312 rfl (fun _ => kk _ _ hw hx2 hm2) (fun c => absurd rfl c)
theorem law_c3 {G : GW} {K : Option Value → Mem → Prop} {α μ : Mem} {i : Nat} (hL : G.2.2.2.2.1 ≤ 3584) (hi : i + 7 ≤ G.2.2.2.2.1) (hf : WF α) (hx : VX α μ) (hm : VM α μ) (kk : lawK G i K) : Ev2 G mL_law 80 317 (lvL i) [] μ K := by
  refine ev_aload_n dL_law_317 1 rfl (by decide) ?_
  refine ev_sarg (j := 1) dL_law_318 dL_law_319 dL_law_320 rfl dL_law_321 dL_law_322 (by omega) hL ?_
  refine ev_sarg (j := 2) dL_law_323 dL_law_324 dL_law_325 rfl dL_law_326 dL_law_327 (by omega) hL ?_
  refine ev_callV (a := 10) (as := [.int (G.2.2.2.2.2 (i + 1)), .int (G.2.2.2.2.2 (i + 2))]) (st := []) ok_X7_rideTold vi_X7_rideTold ml_L_27 hcl_7 kd_10 dL_law_328 rfl rfl (Nat.le_of_ble_eq_true rfl) (Nat.le_of_ble_eq_true rfl) (by decide) e_b2 (pb_X7_rideTold hf hx (G.2.2.2.2.2 (i + 1)) (G.2.2.2.2.2 (i + 2))) ?_
  rintro v1 S1 μ1 ⟨rfl, rfl, hx1, hk1⟩ - - -
  have hm1 := hm.keptM hf hk1
  refine ev_aload_n dL_law_331 2 rfl (by decide) ?_
  refine ev_sarg (j := 1) dL_law_332 dL_law_333 dL_law_334 rfl dL_law_335 dL_law_336 (by omega) hL ?_
  refine ev_sarg (j := 2) dL_law_337 dL_law_338 dL_law_339 rfl dL_law_340 dL_law_341 (by omega) hL ?_
  refine ev_callV (a := 82) (as := [.int (G.2.2.2.2.2 (i + 1)), .int (G.2.2.2.2.2 (i + 2))]) (st := [_]) ok_X8_rideTold vi_X8_rideTold ml_L_30 hcl_8 kd_82 dL_law_342 rfl rfl (Nat.le_of_ble_eq_true rfl) (Nat.le_of_ble_eq_true rfl) (by decide) e_b2 (pb_X8_rideTold hf hm1 (G.2.2.2.2.2 (i + 1)) (G.2.2.2.2.2 (i + 2))) ?_
  rintro v2 S2 μ2 ⟨rfl, rfl, hm2, hk2⟩ - - -
  have hw := hf
  have hx2 := hx1.keptX hw hk2
  exact ev_icmp_eq (tgt := 1612) dL_law_345 rfl (fun _ => kk _ _ hw hx2 hm2) (fun c => absurd rfl c)
theorem law_c4 {G : GW} {K : Option Value → Mem → Prop} {α μ : Mem} {i : Nat} (hL : G.2.2.2.2.1 ≤ 3584) (hi : i + 7 ≤ G.2.2.2.2.1) (hf : WF α) (hx : VX α μ) (hm : VM α μ) (kk : lawK G i K) : Ev2 G mL_law 80 350 (lvL i) [] μ K := by
  refine ev_aload_n dL_law_350 1 rfl (by decide) ?_
  refine ev_sarg (j := 1) dL_law_351 dL_law_352 dL_law_353 rfl dL_law_354 dL_law_355 (by omega) hL ?_
  refine ev_callV (a := 10) (as := [.int (G.2.2.2.2.2 (i + 1))]) (st := []) ok_X7_count vi_X7_count ml_L_31 hcl_7 kd_10 dL_law_356 rfl rfl (Nat.le_of_ble_eq_true rfl) (Nat.le_of_ble_eq_true rfl) (by decide) e_b2 (pb_X7_count hf hx (G.2.2.2.2.2 (i + 1))) ?_
  rintro v1 S1 μ1 ⟨rfl, rfl, hx1, hk1⟩ - - -
  have hm1 := hm.keptM hf hk1
  refine ev_aload_n dL_law_359 2 rfl (by decide) ?_
  refine ev_sarg (j := 1) dL_law_360 dL_law_361 dL_law_362 rfl dL_law_363 dL_law_364 (by omega) hL ?_
  refine ev_callV (a := 82) (as := [.int (G.2.2.2.2.2 (i + 1))]) (st := [_]) ok_X8_count vi_X8_count ml_L_35 hcl_8 kd_82 dL_law_365 rfl rfl (Nat.le_of_ble_eq_true rfl) (Nat.le_of_ble_eq_true rfl) (by decide) e_b2 (pb_X8_count hf hm1 (G.2.2.2.2.2 (i + 1))) ?_
  rintro v2 S2 μ2 ⟨rfl, rfl, hm2, hk2⟩ - - -
  have hw := hf
  have hx2 := hx1.keptX hw hk2
  exact ev_icmp_eq (tgt := 1612) dL_law_368 rfl (fun _ => kk _ _ hw hx2 hm2) (fun c => absurd rfl c)
theorem law_c5 {G : GW} {K : Option Value → Mem → Prop} {α μ : Mem} {i : Nat} (hL : G.2.2.2.2.1 ≤ 3584) (hi : i + 7 ≤ G.2.2.2.2.1) (hf : WF α) (hx : VX α μ) (hm : VM α μ) (kk : lawK G i K) : Ev2 G mL_law 80 373 (lvL i) [] μ K := by
  refine ev_aload_n dL_law_373 1 rfl (by decide) ?_
  refine ev_sarg (j := 1) dL_law_374 dL_law_375 dL_law_376 rfl dL_law_377 dL_law_378 (by omega) hL ?_
  refine ev_sarg (j := 2) dL_law_379 dL_law_380 dL_law_381 rfl dL_law_382 dL_law_383 (by omega) hL ?_
  refine ev_sarg (j := 3) dL_law_384 dL_law_385 dL_law_386 rfl dL_law_387 dL_law_388 (by omega) hL ?_
  refine ev_sarg (j := 4) dL_law_389 dL_law_390 dL_law_391 rfl dL_law_392 dL_law_393 (by omega) hL ?_
  refine ev_sarg (j := 5) dL_law_394 dL_law_395 dL_law_396 rfl dL_law_397 dL_law_398 (by omega) hL ?_
  refine ev_sarg6 (j := 6) dL_law_399 dL_law_400 dL_law_401 rfl dL_law_403 dL_law_404 (by omega) hL ?_
  refine ev_callV (a := 10) (as := [.int (G.2.2.2.2.2 (i + 1)), .int (G.2.2.2.2.2 (i + 2)), .int (G.2.2.2.2.2 (i + 3)), .int (G.2.2.2.2.2 (i + 4)), .int (G.2.2.2.2.2 (i + 5)), .int (G.2.2.2.2.2 (i + 6))]) (st := []) ok_X7_feed vi_X7_feed ml_L_36 hcl_7 kd_10 dL_law_405 rfl rfl (Nat.le_of_ble_eq_true rfl) (Nat.le_of_ble_eq_true rfl) (by decide) e_b2 (pb_X7_feed hf hx (G.2.2.2.2.2 (i + 1)) (G.2.2.2.2.2 (i + 2)) (G.2.2.2.2.2 (i + 3)) (G.2.2.2.2.2 (i + 4)) (G.2.2.2.2.2 (i + 5)) (G.2.2.2.2.2 (i + 6))) ?_
  rintro v1 S1 μ1 ⟨rfl, rfl, hx1, hk1⟩ - - -
  have hm1 := hm.keptM hf hk1
  refine ev_aload_n dL_law_408 2 rfl (by decide) ?_
  refine ev_sarg (j := 1) dL_law_409 dL_law_410 dL_law_411 rfl dL_law_412 dL_law_413 (by omega) hL ?_
  refine ev_sarg (j := 2) dL_law_414 dL_law_415 dL_law_416 rfl dL_law_417 dL_law_418 (by omega) hL ?_
  refine ev_sarg (j := 3) dL_law_419 dL_law_420 dL_law_421 rfl dL_law_422 dL_law_423 (by omega) hL ?_
  refine ev_sarg (j := 4) dL_law_424 dL_law_425 dL_law_426 rfl dL_law_427 dL_law_428 (by omega) hL ?_
  refine ev_sarg (j := 5) dL_law_429 dL_law_430 dL_law_431 rfl dL_law_432 dL_law_433 (by omega) hL ?_
  refine ev_sarg6 (j := 6) dL_law_434 dL_law_435 dL_law_436 rfl dL_law_438 dL_law_439 (by omega) hL ?_
  refine ev_callV (a := 82) (as := [.int (G.2.2.2.2.2 (i + 1)), .int (G.2.2.2.2.2 (i + 2)), .int (G.2.2.2.2.2 (i + 3)), .int (G.2.2.2.2.2 (i + 4)), .int (G.2.2.2.2.2 (i + 5)), .int (G.2.2.2.2.2 (i + 6))]) (st := [_]) ok_X8_feed vi_X8_feed ml_L_40 hcl_8 kd_82 dL_law_440 rfl rfl (Nat.le_of_ble_eq_true rfl) (Nat.le_of_ble_eq_true rfl) (by decide) e_b2 (pb_X8_feed hf hm1 (G.2.2.2.2.2 (i + 1)) (G.2.2.2.2.2 (i + 2)) (G.2.2.2.2.2 (i + 3)) (G.2.2.2.2.2 (i + 4)) (G.2.2.2.2.2 (i + 5)) (G.2.2.2.2.2 (i + 6))) ?_
  rintro v2 S2 μ2 ⟨rfl, rfl, hm2, hk2⟩ - - -
  have hw := (wf_feed hf (G.2.2.2.2.2 (i + 1)) (G.2.2.2.2.2 (i + 2)) (G.2.2.2.2.2 (i + 3)) (G.2.2.2.2.2 (i + 4)) (G.2.2.2.2.2 (i + 5)) (G.2.2.2.2.2 (i + 6)))
  have hx2 := hx1.keptX hw hk2
  exact ev_icmp_eq (tgt := 1612) dL_law_443 rfl (fun _ => kk _ _ hw hx2 hm2) (fun c => absurd rfl c)
theorem law_c6 {G : GW} {K : Option Value → Mem → Prop} {α μ : Mem} {i : Nat} (hL : G.2.2.2.2.1 ≤ 3584) (hi : i + 7 ≤ G.2.2.2.2.1) (hf : WF α) (hx : VX α μ) (hm : VM α μ) (kk : lawK G i K) : Ev2 G mL_law 80 448 (lvL i) [] μ K := by
  refine ev_aload_n dL_law_448 1 rfl (by decide) ?_
  refine ev_callV (a := 10) (as := []) (st := []) ok_X7_text vi_X7_text ml_L_41 hcl_7 kd_10 dL_law_449 rfl rfl (Nat.le_of_ble_eq_true rfl) (Nat.le_of_ble_eq_true rfl) (by decide) e_b2 (pb_X7_text hf hx ) ?_
  rintro v1 S1 μ1 ⟨rfl, rfl, hx1, hk1⟩ - - -
  have hm1 := hm.keptM hf hk1
  refine ev_aload_n dL_law_452 2 rfl (by decide) ?_
  refine ev_callV (a := 82) (as := []) (st := [_]) ok_X8_text vi_X8_text ml_L_45 hcl_8 kd_82 dL_law_453 rfl rfl (Nat.le_of_ble_eq_true rfl) (Nat.le_of_ble_eq_true rfl) (by decide) e_b2 (pb_X8_text hf hm1 ) ?_
  rintro v2 S2 μ2 ⟨rfl, rfl, hm2, hk2⟩ - - -
  have hw := (wf_text hf)
  have hx2 := hx1.keptX hw hk2
  exact ev_icmp_eq (tgt := 1612) dL_law_456 rfl (fun _ => kk _ _ hw hx2 hm2) (fun c => absurd rfl c)
theorem law_c7 {G : GW} {K : Option Value → Mem → Prop} {α μ : Mem} {i : Nat} (hL : G.2.2.2.2.1 ≤ 3584) (hi : i + 7 ≤ G.2.2.2.2.1) (hf : WF α) (hx : VX α μ) (hm : VM α μ) (kk : lawK G i K) : Ev2 G mL_law 80 461 (lvL i) [] μ K := by
  refine ev_aload_n dL_law_461 1 rfl (by decide) ?_
  refine ev_sarg (j := 1) dL_law_462 dL_law_463 dL_law_464 rfl dL_law_465 dL_law_466 (by omega) hL ?_
  refine ev_callV (a := 10) (as := [.int (G.2.2.2.2.2 (i + 1))]) (st := []) ok_X7_force vi_X7_force ml_L_46 hcl_7 kd_10 dL_law_467 rfl rfl (Nat.le_of_ble_eq_true rfl) (Nat.le_of_ble_eq_true rfl) (by decide) e_b2 (pb_X7_force hf hx (G.2.2.2.2.2 (i + 1))) ?_
  rintro v1 S1 μ1 ⟨rfl, rfl, hx1, hk1⟩ - - -
  have hm1 := hm.keptM hf hk1
  refine ev_aload_n dL_law_470 2 rfl (by decide) ?_
  refine ev_sarg (j := 1) dL_law_471 dL_law_472 dL_law_473 rfl dL_law_474 dL_law_475 (by omega) hL ?_
  refine ev_callV (a := 82) (as := [.int (G.2.2.2.2.2 (i + 1))]) (st := [_]) ok_X8_force vi_X8_force ml_L_49 hcl_8 kd_82 dL_law_476 rfl rfl (Nat.le_of_ble_eq_true rfl) (Nat.le_of_ble_eq_true rfl) (by decide) e_b2 (pb_X8_force hf hm1 (G.2.2.2.2.2 (i + 1))) ?_
  rintro v2 S2 μ2 ⟨rfl, rfl, hm2, hk2⟩ - - -
  have hw := (wf_force hf (G.2.2.2.2.2 (i + 1)))
  have hx2 := hx1.keptX hw hk2
  exact ev_icmp_eq (tgt := 1612) dL_law_479 rfl (fun _ => kk _ _ hw hx2 hm2) (fun c => absurd rfl c)
theorem law_c8 {G : GW} {K : Option Value → Mem → Prop} {α μ : Mem} {i : Nat} (hL : G.2.2.2.2.1 ≤ 3584) (hi : i + 7 ≤ G.2.2.2.2.1) (hf : WF α) (hx : VX α μ) (hm : VM α μ) (kk : lawK G i K) : Ev2 G mL_law 80 484 (lvL i) [] μ K := by
  refine ev_aload_n dL_law_484 1 rfl (by decide) ?_
  refine ev_sarg (j := 1) dL_law_485 dL_law_486 dL_law_487 rfl dL_law_488 dL_law_489 (by omega) hL ?_
  refine ev_sarg (j := 2) dL_law_490 dL_law_491 dL_law_492 rfl dL_law_493 dL_law_494 (by omega) hL ?_
  refine ev_callV (a := 10) (as := [.int (G.2.2.2.2.2 (i + 1)), .int (G.2.2.2.2.2 (i + 2))]) (st := []) ok_X7_asks vi_X7_asks ml_L_50 hcl_7 kd_10 dL_law_495 rfl rfl (Nat.le_of_ble_eq_true rfl) (Nat.le_of_ble_eq_true rfl) (by decide) e_b2 (pb_X7_asks hf hx (G.2.2.2.2.2 (i + 1)) (G.2.2.2.2.2 (i + 2))) ?_
  rintro v1 S1 μ1 ⟨rfl, rfl, hx1, hk1⟩ - - -
  have hm1 := hm.keptM hf hk1
  refine ev_aload_n dL_law_498 2 rfl (by decide) ?_
  refine ev_sarg (j := 1) dL_law_499 dL_law_500 dL_law_501 rfl dL_law_502 dL_law_503 (by omega) hL ?_
  refine ev_sarg (j := 2) dL_law_504 dL_law_505 dL_law_506 rfl dL_law_507 dL_law_508 (by omega) hL ?_
  refine ev_callV (a := 82) (as := [.int (G.2.2.2.2.2 (i + 1)), .int (G.2.2.2.2.2 (i + 2))]) (st := [_]) ok_X8_asks vi_X8_asks ml_L_53 hcl_8 kd_82 dL_law_509 rfl rfl (Nat.le_of_ble_eq_true rfl) (Nat.le_of_ble_eq_true rfl) (by decide) e_b2 (pb_X8_asks hf hm1 (G.2.2.2.2.2 (i + 1)) (G.2.2.2.2.2 (i + 2))) ?_
  rintro v2 S2 μ2 ⟨rfl, rfl, hm2, hk2⟩ - - -
  have hw := hf
  have hx2 := hx1.keptX hw hk2
  exact ev_icmp_eq (tgt := 1612) dL_law_512 rfl (fun _ => kk _ _ hw hx2 hm2) (fun c => absurd rfl c)
theorem law_c9 {G : GW} {K : Option Value → Mem → Prop} {α μ : Mem} {i : Nat} (hL : G.2.2.2.2.1 ≤ 3584) (hi : i + 7 ≤ G.2.2.2.2.1) (hf : WF α) (hx : VX α μ) (hm : VM α μ) (kk : lawK G i K) : Ev2 G mL_law 80 517 (lvL i) [] μ K := by
  refine ev_aload_n dL_law_517 1 rfl (by decide) ?_
  refine ev_sarg (j := 1) dL_law_518 dL_law_519 dL_law_520 rfl dL_law_521 dL_law_522 (by omega) hL ?_
  refine ev_sarg (j := 2) dL_law_523 dL_law_524 dL_law_525 rfl dL_law_526 dL_law_527 (by omega) hL ?_
  refine ev_sarg (j := 3) dL_law_528 dL_law_529 dL_law_530 rfl dL_law_531 dL_law_532 (by omega) hL ?_
  refine ev_sarg (j := 4) dL_law_533 dL_law_534 dL_law_535 rfl dL_law_536 dL_law_537 (by omega) hL ?_
  refine ev_callV (a := 10) (as := [.int (G.2.2.2.2.2 (i + 1)), .int (G.2.2.2.2.2 (i + 2)), .int (G.2.2.2.2.2 (i + 3)), .int (G.2.2.2.2.2 (i + 4))]) (st := []) ok_X7_horse vi_X7_horse ml_L_54 hcl_7 kd_10 dL_law_538 rfl rfl (Nat.le_of_ble_eq_true rfl) (Nat.le_of_ble_eq_true rfl) (by decide) e_b2 (pb_X7_horse hf hx (G.2.2.2.2.2 (i + 1)) (G.2.2.2.2.2 (i + 2)) (G.2.2.2.2.2 (i + 3)) (G.2.2.2.2.2 (i + 4))) ?_
  rintro v1 S1 μ1 ⟨rfl, rfl, hx1, hk1⟩ - - -
  have hm1 := hm.keptM hf hk1
  refine ev_aload_n dL_law_541 2 rfl (by decide) ?_
  refine ev_sarg (j := 1) dL_law_542 dL_law_543 dL_law_544 rfl dL_law_545 dL_law_546 (by omega) hL ?_
  refine ev_sarg (j := 2) dL_law_547 dL_law_548 dL_law_549 rfl dL_law_550 dL_law_551 (by omega) hL ?_
  refine ev_sarg (j := 3) dL_law_552 dL_law_553 dL_law_554 rfl dL_law_555 dL_law_556 (by omega) hL ?_
  refine ev_sarg (j := 4) dL_law_557 dL_law_558 dL_law_559 rfl dL_law_560 dL_law_561 (by omega) hL ?_
  refine ev_callV (a := 82) (as := [.int (G.2.2.2.2.2 (i + 1)), .int (G.2.2.2.2.2 (i + 2)), .int (G.2.2.2.2.2 (i + 3)), .int (G.2.2.2.2.2 (i + 4))]) (st := [_]) ok_X8_horse vi_X8_horse ml_L_58 hcl_8 kd_82 dL_law_562 rfl rfl (Nat.le_of_ble_eq_true rfl) (Nat.le_of_ble_eq_true rfl) (by decide) e_b2 (pb_X8_horse hf hm1 (G.2.2.2.2.2 (i + 1)) (G.2.2.2.2.2 (i + 2)) (G.2.2.2.2.2 (i + 3)) (G.2.2.2.2.2 (i + 4))) ?_
  rintro v2 S2 μ2 ⟨rfl, rfl, hm2, hk2⟩ - - -
  have hw := (wf_horse hf (G.2.2.2.2.2 (i + 1)) (G.2.2.2.2.2 (i + 2)) (G.2.2.2.2.2 (i + 3)) (G.2.2.2.2.2 (i + 4)))
  have hx2 := hx1.keptX hw hk2
  exact ev_icmp_eq (tgt := 1612) dL_law_565 rfl (fun _ => kk _ _ hw hx2 hm2) (fun c => absurd rfl c)
theorem law_c10 {G : GW} {K : Option Value → Mem → Prop} {α μ : Mem} {i : Nat} (hL : G.2.2.2.2.1 ≤ 3584) (hi : i + 7 ≤ G.2.2.2.2.1) (hf : WF α) (hx : VX α μ) (hm : VM α μ) (kk : lawK G i K) : Ev2 G mL_law 80 570 (lvL i) [] μ K := by
  refine ev_aload_n dL_law_570 1 rfl (by decide) ?_
  refine ev_sarg (j := 1) dL_law_571 dL_law_572 dL_law_573 rfl dL_law_574 dL_law_575 (by omega) hL ?_
  refine ev_sarg (j := 2) dL_law_576 dL_law_577 dL_law_578 rfl dL_law_579 dL_law_580 (by omega) hL ?_
  refine ev_callV (a := 10) (as := [.int (G.2.2.2.2.2 (i + 1)), .int (G.2.2.2.2.2 (i + 2))]) (st := []) ok_X7_stand vi_X7_stand ml_L_59 hcl_7 kd_10 dL_law_581 rfl rfl (Nat.le_of_ble_eq_true rfl) (Nat.le_of_ble_eq_true rfl) (by decide) e_b2 (pb_X7_stand hf hx (G.2.2.2.2.2 (i + 1)) (G.2.2.2.2.2 (i + 2))) ?_
  rintro v1 S1 μ1 ⟨rfl, rfl, hx1, hk1⟩ - - -
  have hm1 := hm.keptM hf hk1
  refine ev_aload_n dL_law_584 2 rfl (by decide) ?_
  refine ev_sarg (j := 1) dL_law_585 dL_law_586 dL_law_587 rfl dL_law_588 dL_law_589 (by omega) hL ?_
  refine ev_sarg (j := 2) dL_law_590 dL_law_591 dL_law_592 rfl dL_law_593 dL_law_594 (by omega) hL ?_
  refine ev_callV (a := 82) (as := [.int (G.2.2.2.2.2 (i + 1)), .int (G.2.2.2.2.2 (i + 2))]) (st := [_]) ok_X8_stand vi_X8_stand ml_L_62 hcl_8 kd_82 dL_law_595 rfl rfl (Nat.le_of_ble_eq_true rfl) (Nat.le_of_ble_eq_true rfl) (by decide) e_b2 (pb_X8_stand hf hm1 (G.2.2.2.2.2 (i + 1)) (G.2.2.2.2.2 (i + 2))) ?_
  rintro v2 S2 μ2 ⟨rfl, rfl, hm2, hk2⟩ - - -
  have hw := (wf_stand hf (G.2.2.2.2.2 (i + 1)) (G.2.2.2.2.2 (i + 2)))
  have hx2 := hx1.keptX hw hk2
  exact ev_icmp_eq (tgt := 1612) dL_law_598 rfl (fun _ => kk _ _ hw hx2 hm2) (fun c => absurd rfl c)
theorem law_c11 {G : GW} {K : Option Value → Mem → Prop} {α μ : Mem} {i : Nat} (hL : G.2.2.2.2.1 ≤ 3584) (hi : i + 7 ≤ G.2.2.2.2.1) (hf : WF α) (hx : VX α μ) (hm : VM α μ) (kk : lawK G i K) : Ev2 G mL_law 80 603 (lvL i) [] μ K := by
  refine ev_aload_n dL_law_603 1 rfl (by decide) ?_
  refine ev_sarg (j := 1) dL_law_604 dL_law_605 dL_law_606 rfl dL_law_607 dL_law_608 (by omega) hL ?_
  refine ev_sarg (j := 2) dL_law_609 dL_law_610 dL_law_611 rfl dL_law_612 dL_law_613 (by omega) hL ?_
  refine ev_callV (a := 10) (as := [.int (G.2.2.2.2.2 (i + 1)), .int (G.2.2.2.2.2 (i + 2))]) (st := []) ok_X7_told vi_X7_told ml_L_63 hcl_7 kd_10 dL_law_614 rfl rfl (Nat.le_of_ble_eq_true rfl) (Nat.le_of_ble_eq_true rfl) (by decide) e_b2 (pb_X7_told hf hx (G.2.2.2.2.2 (i + 1)) (G.2.2.2.2.2 (i + 2))) ?_
  rintro v1 S1 μ1 ⟨rfl, rfl, hx1, hk1⟩ - - -
  have hm1 := hm.keptM hf hk1
  refine ev_aload_n dL_law_617 2 rfl (by decide) ?_
  refine ev_sarg (j := 1) dL_law_618 dL_law_619 dL_law_620 rfl dL_law_621 dL_law_622 (by omega) hL ?_
  refine ev_sarg (j := 2) dL_law_623 dL_law_624 dL_law_625 rfl dL_law_626 dL_law_627 (by omega) hL ?_
  refine ev_callV (a := 82) (as := [.int (G.2.2.2.2.2 (i + 1)), .int (G.2.2.2.2.2 (i + 2))]) (st := [_]) ok_X8_told vi_X8_told ml_L_66 hcl_8 kd_82 dL_law_628 rfl rfl (Nat.le_of_ble_eq_true rfl) (Nat.le_of_ble_eq_true rfl) (by decide) e_b2 (pb_X8_told hf hm1 (G.2.2.2.2.2 (i + 1)) (G.2.2.2.2.2 (i + 2))) ?_
  rintro v2 S2 μ2 ⟨rfl, rfl, hm2, hk2⟩ - - -
  have hw := hf
  have hx2 := hx1.keptX hw hk2
  exact ev_icmp_eq (tgt := 1612) dL_law_631 rfl (fun _ => kk _ _ hw hx2 hm2) (fun c => absurd rfl c)
theorem law_c12 {G : GW} {K : Option Value → Mem → Prop} {α μ : Mem} {i : Nat} (hL : G.2.2.2.2.1 ≤ 3584) (hi : i + 7 ≤ G.2.2.2.2.1) (hf : WF α) (hx : VX α μ) (hm : VM α μ) (kk : lawK G i K) : Ev2 G mL_law 80 636 (lvL i) [] μ K := by
  refine ev_aload_n dL_law_636 1 rfl (by decide) ?_
  refine ev_sarg (j := 1) dL_law_637 dL_law_638 dL_law_639 rfl dL_law_640 dL_law_641 (by omega) hL ?_
  refine ev_sarg (j := 2) dL_law_642 dL_law_643 dL_law_644 rfl dL_law_645 dL_law_646 (by omega) hL ?_
  refine ev_callV (a := 10) (as := [.int (G.2.2.2.2.2 (i + 1)), .int (G.2.2.2.2.2 (i + 2))]) (st := []) ok_X7_goes vi_X7_goes ml_L_67 hcl_7 kd_10 dL_law_647 rfl rfl (Nat.le_of_ble_eq_true rfl) (Nat.le_of_ble_eq_true rfl) (by decide) e_b2 (pb_X7_goes hf hx (G.2.2.2.2.2 (i + 1)) (G.2.2.2.2.2 (i + 2))) ?_
  rintro v1 S1 μ1 ⟨rfl, rfl, hx1, hk1⟩ - - -
  have hm1 := hm.keptM hf hk1
  refine ev_aload_n dL_law_650 2 rfl (by decide) ?_
  refine ev_sarg (j := 1) dL_law_651 dL_law_652 dL_law_653 rfl dL_law_654 dL_law_655 (by omega) hL ?_
  refine ev_sarg (j := 2) dL_law_656 dL_law_657 dL_law_658 rfl dL_law_659 dL_law_660 (by omega) hL ?_
  refine ev_callV (a := 82) (as := [.int (G.2.2.2.2.2 (i + 1)), .int (G.2.2.2.2.2 (i + 2))]) (st := [_]) ok_X8_goes vi_X8_goes ml_L_70 hcl_8 kd_82 dL_law_661 rfl rfl (Nat.le_of_ble_eq_true rfl) (Nat.le_of_ble_eq_true rfl) (by decide) e_b2 (pb_X8_goes hf hm1 (G.2.2.2.2.2 (i + 1)) (G.2.2.2.2.2 (i + 2))) ?_
  rintro v2 S2 μ2 ⟨rfl, rfl, hm2, hk2⟩ - - -
  have hw := hf
  have hx2 := hx1.keptX hw hk2
  exact ev_icmp_eq (tgt := 1612) dL_law_664 rfl (fun _ => kk _ _ hw hx2 hm2) (fun c => absurd rfl c)
theorem law_c13 {G : GW} {K : Option Value → Mem → Prop} {α μ : Mem} {i : Nat} (hL : G.2.2.2.2.1 ≤ 3584) (hi : i + 7 ≤ G.2.2.2.2.1) (hf : WF α) (hx : VX α μ) (hm : VM α μ) (kk : lawK G i K) : Ev2 G mL_law 80 669 (lvL i) [] μ K := by
  refine ev_aload_n dL_law_669 1 rfl (by decide) ?_
  refine ev_sarg (j := 1) dL_law_670 dL_law_671 dL_law_672 rfl dL_law_673 dL_law_674 (by omega) hL ?_
  refine ev_callV (a := 10) (as := [.int (G.2.2.2.2.2 (i + 1))]) (st := []) ok_X7_at vi_X7_at ml_L_71 hcl_7 kd_10 dL_law_675 rfl rfl (Nat.le_of_ble_eq_true rfl) (Nat.le_of_ble_eq_true rfl) (by decide) e_b2 (pb_X7_at hf hx (G.2.2.2.2.2 (i + 1))) ?_
  rintro v1 S1 μ1 ⟨rfl, rfl, hx1, hk1⟩ - - -
  have hm1 := hm.keptM hf hk1
  refine ev_aload_n dL_law_678 2 rfl (by decide) ?_
  refine ev_sarg (j := 1) dL_law_679 dL_law_680 dL_law_681 rfl dL_law_682 dL_law_683 (by omega) hL ?_
  refine ev_callV (a := 82) (as := [.int (G.2.2.2.2.2 (i + 1))]) (st := [_]) ok_X8_at vi_X8_at ml_L_74 hcl_8 kd_82 dL_law_684 rfl rfl (Nat.le_of_ble_eq_true rfl) (Nat.le_of_ble_eq_true rfl) (by decide) e_b2 (pb_X8_at hf hm1 (G.2.2.2.2.2 (i + 1))) ?_
  rintro v2 S2 μ2 ⟨rfl, rfl, hm2, hk2⟩ - - -
  have hw := hf
  have hx2 := hx1.keptX hw hk2
  exact ev_icmp_eq (tgt := 1612) dL_law_687 rfl (fun _ => kk _ _ hw hx2 hm2) (fun c => absurd rfl c)
theorem law_c14 {G : GW} {K : Option Value → Mem → Prop} {α μ : Mem} {i : Nat} (hL : G.2.2.2.2.1 ≤ 3584) (hi : i + 7 ≤ G.2.2.2.2.1) (hf : WF α) (hx : VX α μ) (hm : VM α μ) (kk : lawK G i K) : Ev2 G mL_law 80 692 (lvL i) [] μ K := by
  refine ev_aload_n dL_law_692 1 rfl (by decide) ?_
  refine ev_sarg (j := 1) dL_law_693 dL_law_694 dL_law_695 rfl dL_law_696 dL_law_697 (by omega) hL ?_
  refine ev_sarg (j := 2) dL_law_698 dL_law_699 dL_law_700 rfl dL_law_701 dL_law_702 (by omega) hL ?_
  refine ev_sarg (j := 3) dL_law_703 dL_law_704 dL_law_705 rfl dL_law_706 dL_law_707 (by omega) hL ?_
  refine ev_callV (a := 10) (as := [.int (G.2.2.2.2.2 (i + 1)), .int (G.2.2.2.2.2 (i + 2)), .int (G.2.2.2.2.2 (i + 3))]) (st := []) ok_X7_soonest vi_X7_soonest ml_L_75 hcl_7 kd_10 dL_law_708 rfl rfl (Nat.le_of_ble_eq_true rfl) (Nat.le_of_ble_eq_true rfl) (by decide) e_b2 (pb_X7_soonest hf hx (G.2.2.2.2.2 (i + 1)) (G.2.2.2.2.2 (i + 2)) (G.2.2.2.2.2 (i + 3))) ?_
  rintro v1 S1 μ1 ⟨rfl, rfl, hx1, hk1⟩ - - -
  have hm1 := hm.keptM hf hk1
  refine ev_aload_n dL_law_711 2 rfl (by decide) ?_
  refine ev_sarg (j := 1) dL_law_712 dL_law_713 dL_law_714 rfl dL_law_715 dL_law_716 (by omega) hL ?_
  refine ev_sarg (j := 2) dL_law_717 dL_law_718 dL_law_719 rfl dL_law_720 dL_law_721 (by omega) hL ?_
  refine ev_sarg (j := 3) dL_law_722 dL_law_723 dL_law_724 rfl dL_law_725 dL_law_726 (by omega) hL ?_
  refine ev_callV (a := 82) (as := [.int (G.2.2.2.2.2 (i + 1)), .int (G.2.2.2.2.2 (i + 2)), .int (G.2.2.2.2.2 (i + 3))]) (st := [_]) ok_X8_soonest vi_X8_soonest ml_L_78 hcl_8 kd_82 dL_law_727 rfl rfl (Nat.le_of_ble_eq_true rfl) (Nat.le_of_ble_eq_true rfl) (by decide) e_b2 (pb_X8_soonest hf hm1 (G.2.2.2.2.2 (i + 1)) (G.2.2.2.2.2 (i + 2)) (G.2.2.2.2.2 (i + 3))) ?_
  rintro v2 S2 μ2 ⟨rfl, rfl, hm2, hk2⟩ - - -
  have hw := hf
  have hx2 := hx1.keptX hw hk2
  exact ev_icmp_eq (tgt := 1612) dL_law_730 rfl (fun _ => kk _ _ hw hx2 hm2) (fun c => absurd rfl c)
theorem law_c15 {G : GW} {K : Option Value → Mem → Prop} {α μ : Mem} {i : Nat} (hL : G.2.2.2.2.1 ≤ 3584) (hi : i + 7 ≤ G.2.2.2.2.1) (hf : WF α) (hx : VX α μ) (hm : VM α μ) (kk : lawK G i K) : Ev2 G mL_law 80 735 (lvL i) [] μ K := by
  refine ev_aload_n dL_law_735 1 rfl (by decide) ?_
  refine ev_sarg (j := 1) dL_law_736 dL_law_737 dL_law_738 rfl dL_law_739 dL_law_740 (by omega) hL ?_
  refine ev_sarg (j := 2) dL_law_741 dL_law_742 dL_law_743 rfl dL_law_744 dL_law_745 (by omega) hL ?_
  refine ev_sarg (j := 3) dL_law_746 dL_law_747 dL_law_748 rfl dL_law_749 dL_law_750 (by omega) hL ?_
  refine ev_callV (a := 10) (as := [.int (G.2.2.2.2.2 (i + 1)), .int (G.2.2.2.2.2 (i + 2)), .int (G.2.2.2.2.2 (i + 3))]) (st := []) ok_X7_piece vi_X7_piece ml_L_79 hcl_7 kd_10 dL_law_751 rfl rfl (Nat.le_of_ble_eq_true rfl) (Nat.le_of_ble_eq_true rfl) (by decide) e_b2 (pb_X7_piece hf hx (G.2.2.2.2.2 (i + 1)) (G.2.2.2.2.2 (i + 2)) (G.2.2.2.2.2 (i + 3))) ?_
  rintro v1 S1 μ1 ⟨rfl, rfl, hx1, hk1⟩ - - -
  have hm1 := hm.keptM hf hk1
  refine ev_aload_n dL_law_754 2 rfl (by decide) ?_
  refine ev_sarg (j := 1) dL_law_755 dL_law_756 dL_law_757 rfl dL_law_758 dL_law_759 (by omega) hL ?_
  refine ev_sarg (j := 2) dL_law_760 dL_law_761 dL_law_762 rfl dL_law_763 dL_law_764 (by omega) hL ?_
  refine ev_sarg (j := 3) dL_law_765 dL_law_766 dL_law_767 rfl dL_law_768 dL_law_769 (by omega) hL ?_
  refine ev_callV (a := 82) (as := [.int (G.2.2.2.2.2 (i + 1)), .int (G.2.2.2.2.2 (i + 2)), .int (G.2.2.2.2.2 (i + 3))]) (st := [_]) ok_X8_piece vi_X8_piece ml_L_82 hcl_8 kd_82 dL_law_770 rfl rfl (Nat.le_of_ble_eq_true rfl) (Nat.le_of_ble_eq_true rfl) (by decide) e_b2 (pb_X8_piece hf hm1 (G.2.2.2.2.2 (i + 1)) (G.2.2.2.2.2 (i + 2)) (G.2.2.2.2.2 (i + 3))) ?_
  rintro v2 S2 μ2 ⟨rfl, rfl, hm2, hk2⟩ - - -
  have hw := hf
  have hx2 := hx1.keptX hw hk2
  exact ev_icmp_eq (tgt := 1612) dL_law_773 rfl (fun _ => kk _ _ hw hx2 hm2) (fun c => absurd rfl c)
theorem law_c16 {G : GW} {K : Option Value → Mem → Prop} {α μ : Mem} {i : Nat} (hL : G.2.2.2.2.1 ≤ 3584) (hi : i + 7 ≤ G.2.2.2.2.1) (hf : WF α) (hx : VX α μ) (hm : VM α μ) (kk : lawK G i K) : Ev2 G mL_law 80 778 (lvL i) [] μ K := by
  refine ev_aload_n dL_law_778 1 rfl (by decide) ?_
  refine ev_sarg (j := 1) dL_law_779 dL_law_780 dL_law_781 rfl dL_law_782 dL_law_783 (by omega) hL ?_
  refine ev_sarg (j := 2) dL_law_784 dL_law_785 dL_law_786 rfl dL_law_787 dL_law_788 (by omega) hL ?_
  refine ev_sarg (j := 3) dL_law_789 dL_law_790 dL_law_791 rfl dL_law_792 dL_law_793 (by omega) hL ?_
  refine ev_callV (a := 10) (as := [.int (G.2.2.2.2.2 (i + 1)), .int (G.2.2.2.2.2 (i + 2)), .int (G.2.2.2.2.2 (i + 3))]) (st := []) ok_X7_both vi_X7_both ml_L_83 hcl_7 kd_10 dL_law_794 rfl rfl (Nat.le_of_ble_eq_true rfl) (Nat.le_of_ble_eq_true rfl) (by decide) e_b2 (pb_X7_both hf hx (G.2.2.2.2.2 (i + 1)) (G.2.2.2.2.2 (i + 2)) (G.2.2.2.2.2 (i + 3))) ?_
  rintro v1 S1 μ1 ⟨rfl, rfl, hx1, hk1⟩ - - -
  have hm1 := hm.keptM hf hk1
  refine ev_aload_n dL_law_797 2 rfl (by decide) ?_
  refine ev_sarg (j := 1) dL_law_798 dL_law_799 dL_law_800 rfl dL_law_801 dL_law_802 (by omega) hL ?_
  refine ev_sarg (j := 2) dL_law_803 dL_law_804 dL_law_805 rfl dL_law_806 dL_law_807 (by omega) hL ?_
  refine ev_sarg (j := 3) dL_law_808 dL_law_809 dL_law_810 rfl dL_law_811 dL_law_812 (by omega) hL ?_
  refine ev_callV (a := 82) (as := [.int (G.2.2.2.2.2 (i + 1)), .int (G.2.2.2.2.2 (i + 2)), .int (G.2.2.2.2.2 (i + 3))]) (st := [_]) ok_X8_both vi_X8_both ml_L_86 hcl_8 kd_82 dL_law_813 rfl rfl (Nat.le_of_ble_eq_true rfl) (Nat.le_of_ble_eq_true rfl) (by decide) e_b2 (pb_X8_both hf hm1 (G.2.2.2.2.2 (i + 1)) (G.2.2.2.2.2 (i + 2)) (G.2.2.2.2.2 (i + 3))) ?_
  rintro v2 S2 μ2 ⟨rfl, rfl, hm2, hk2⟩ - - -
  have hw := hf
  have hx2 := hx1.keptX hw hk2
  exact ev_icmp_eq (tgt := 1612) dL_law_816 rfl (fun _ => kk _ _ hw hx2 hm2) (fun c => absurd rfl c)
theorem law_c17 {G : GW} {K : Option Value → Mem → Prop} {α μ : Mem} {i : Nat} (hL : G.2.2.2.2.1 ≤ 3584) (hi : i + 7 ≤ G.2.2.2.2.1) (hf : WF α) (hx : VX α μ) (hm : VM α μ) (kk : lawK G i K) : Ev2 G mL_law 80 821 (lvL i) [] μ K := by
  refine ev_aload_n dL_law_821 1 rfl (by decide) ?_
  refine ev_callV (a := 10) (as := []) (st := []) ok_X7_all vi_X7_all ml_L_87 hcl_7 kd_10 dL_law_822 rfl rfl (Nat.le_of_ble_eq_true rfl) (Nat.le_of_ble_eq_true rfl) (by decide) e_b2 (pb_X7_all hf hx ) ?_
  rintro v1 S1 μ1 ⟨rfl, rfl, hx1, hk1⟩ - - -
  have hm1 := hm.keptM hf hk1
  refine ev_aload_n dL_law_825 2 rfl (by decide) ?_
  refine ev_callV (a := 82) (as := []) (st := [_]) ok_X8_all vi_X8_all ml_L_90 hcl_8 kd_82 dL_law_826 rfl rfl (Nat.le_of_ble_eq_true rfl) (Nat.le_of_ble_eq_true rfl) (by decide) e_b2 (pb_X8_all hf hm1 ) ?_
  rintro v2 S2 μ2 ⟨rfl, rfl, hm2, hk2⟩ - - -
  have hw := hf
  have hx2 := hx1.keptX hw hk2
  exact ev_icmp_eq (tgt := 1612) dL_law_829 rfl (fun _ => kk _ _ hw hx2 hm2) (fun c => absurd rfl c)
theorem law_c18 {G : GW} {K : Option Value → Mem → Prop} {α μ : Mem} {i : Nat} (hL : G.2.2.2.2.1 ≤ 3584) (hi : i + 7 ≤ G.2.2.2.2.1) (hf : WF α) (hx : VX α μ) (hm : VM α μ) (kk : lawK G i K) : Ev2 G mL_law 80 834 (lvL i) [] μ K := by
  refine ev_aload_n dL_law_834 1 rfl (by decide) ?_
  refine ev_sarg (j := 1) dL_law_835 dL_law_836 dL_law_837 rfl dL_law_838 dL_law_839 (by omega) hL ?_
  refine ev_callV (a := 10) (as := [.int (G.2.2.2.2.2 (i + 1))]) (st := []) ok_X7_worth vi_X7_worth ml_L_91 hcl_7 kd_10 dL_law_840 rfl rfl (Nat.le_of_ble_eq_true rfl) (Nat.le_of_ble_eq_true rfl) (by decide) e_b2 (pb_X7_worth hf hx (G.2.2.2.2.2 (i + 1))) ?_
  rintro v1 S1 μ1 ⟨rfl, rfl, hx1, hk1⟩ - - -
  have hm1 := hm.keptM hf hk1
  refine ev_aload_n dL_law_843 2 rfl (by decide) ?_
  refine ev_sarg (j := 1) dL_law_844 dL_law_845 dL_law_846 rfl dL_law_847 dL_law_848 (by omega) hL ?_
  refine ev_callV (a := 82) (as := [.int (G.2.2.2.2.2 (i + 1))]) (st := [_]) ok_X8_worth vi_X8_worth ml_L_94 hcl_8 kd_82 dL_law_849 rfl rfl (Nat.le_of_ble_eq_true rfl) (Nat.le_of_ble_eq_true rfl) (by decide) e_b2 (pb_X8_worth hf hm1 (G.2.2.2.2.2 (i + 1))) ?_
  rintro v2 S2 μ2 ⟨rfl, rfl, hm2, hk2⟩ - - -
  have hw := hf
  have hx2 := hx1.keptX hw hk2
  exact ev_icmp_eq (tgt := 1612) dL_law_852 rfl (fun _ => kk _ _ hw hx2 hm2) (fun c => absurd rfl c)
theorem law_c19 {G : GW} {K : Option Value → Mem → Prop} {α μ : Mem} {i : Nat} (hL : G.2.2.2.2.1 ≤ 3584) (hi : i + 7 ≤ G.2.2.2.2.1) (hf : WF α) (hx : VX α μ) (hm : VM α μ) (kk : lawK G i K) : Ev2 G mL_law 80 857 (lvL i) [] μ K := by
  refine ev_aload_n dL_law_857 1 rfl (by decide) ?_
  refine ev_sarg (j := 1) dL_law_858 dL_law_859 dL_law_860 rfl dL_law_861 dL_law_862 (by omega) hL ?_
  refine ev_callV (a := 10) (as := [.int (G.2.2.2.2.2 (i + 1))]) (st := []) ok_X7_teach vi_X7_teach ml_L_95 hcl_7 kd_10 dL_law_863 rfl rfl (Nat.le_of_ble_eq_true rfl) (Nat.le_of_ble_eq_true rfl) (by decide) e_b2 (pb_X7_teach hf hx (G.2.2.2.2.2 (i + 1))) ?_
  rintro v1 S1 μ1 ⟨rfl, rfl, hx1, hk1⟩ - - -
  have hm1 := hm.keptM hf hk1
  refine ev_aload_n dL_law_866 2 rfl (by decide) ?_
  refine ev_sarg (j := 1) dL_law_867 dL_law_868 dL_law_869 rfl dL_law_870 dL_law_871 (by omega) hL ?_
  refine ev_callV (a := 82) (as := [.int (G.2.2.2.2.2 (i + 1))]) (st := [_]) ok_X8_teach vi_X8_teach ml_L_98 hcl_8 kd_82 dL_law_872 rfl rfl (Nat.le_of_ble_eq_true rfl) (Nat.le_of_ble_eq_true rfl) (by decide) e_b2 (pb_X8_teach hf hm1 (G.2.2.2.2.2 (i + 1))) ?_
  rintro v2 S2 μ2 ⟨rfl, rfl, hm2, hk2⟩ - - -
  have hw := hf
  have hx2 := hx1.keptX hw hk2
  exact ev_icmp_eq (tgt := 1612) dL_law_875 rfl (fun _ => kk _ _ hw hx2 hm2) (fun c => absurd rfl c)
theorem law_c20 {G : GW} {K : Option Value → Mem → Prop} {α μ : Mem} {i : Nat} (hL : G.2.2.2.2.1 ≤ 3584) (hi : i + 7 ≤ G.2.2.2.2.1) (hf : WF α) (hx : VX α μ) (hm : VM α μ) (kk : lawK G i K) : Ev2 G mL_law 80 880 (lvL i) [] μ K := by
  refine ev_aload_n dL_law_880 1 rfl (by decide) ?_
  refine ev_sarg (j := 1) dL_law_881 dL_law_882 dL_law_883 rfl dL_law_884 dL_law_885 (by omega) hL ?_
  refine ev_sarg (j := 2) dL_law_886 dL_law_887 dL_law_888 rfl dL_law_889 dL_law_890 (by omega) hL ?_
  refine ev_callV (a := 10) (as := [.int (G.2.2.2.2.2 (i + 1)), .int (G.2.2.2.2.2 (i + 2))]) (st := []) ok_X7_move vi_X7_move ml_L_99 hcl_7 kd_10 dL_law_891 rfl rfl (Nat.le_of_ble_eq_true rfl) (Nat.le_of_ble_eq_true rfl) (by decide) e_b2 (pb_X7_move hf hx (G.2.2.2.2.2 (i + 1)) (G.2.2.2.2.2 (i + 2))) ?_
  rintro v1 S1 μ1 ⟨rfl, rfl, hx1, hk1⟩ - - -
  have hm1 := hm.keptM hf hk1
  refine ev_aload_n dL_law_894 2 rfl (by decide) ?_
  refine ev_sarg (j := 1) dL_law_895 dL_law_896 dL_law_897 rfl dL_law_898 dL_law_899 (by omega) hL ?_
  refine ev_sarg (j := 2) dL_law_900 dL_law_901 dL_law_902 rfl dL_law_903 dL_law_904 (by omega) hL ?_
  refine ev_callV (a := 82) (as := [.int (G.2.2.2.2.2 (i + 1)), .int (G.2.2.2.2.2 (i + 2))]) (st := [_]) ok_X8_move vi_X8_move ml_L_102 hcl_8 kd_82 dL_law_905 rfl rfl (Nat.le_of_ble_eq_true rfl) (Nat.le_of_ble_eq_true rfl) (by decide) e_b2 (pb_X8_move hf hm1 (G.2.2.2.2.2 (i + 1)) (G.2.2.2.2.2 (i + 2))) ?_
  rintro v2 S2 μ2 ⟨rfl, rfl, hm2, hk2⟩ - - -
  have hw := hf
  have hx2 := hx1.keptX hw hk2
  exact ev_icmp_eq (tgt := 1612) dL_law_908 rfl (fun _ => kk _ _ hw hx2 hm2) (fun c => absurd rfl c)
theorem law_c21 {G : GW} {K : Option Value → Mem → Prop} {α μ : Mem} {i : Nat} (hL : G.2.2.2.2.1 ≤ 3584) (hi : i + 7 ≤ G.2.2.2.2.1) (hf : WF α) (hx : VX α μ) (hm : VM α μ) (kk : lawK G i K) : Ev2 G mL_law 80 913 (lvL i) [] μ K := by
  refine ev_aload_n dL_law_913 1 rfl (by decide) ?_
  refine ev_sarg (j := 1) dL_law_914 dL_law_915 dL_law_916 rfl dL_law_917 dL_law_918 (by omega) hL ?_
  refine ev_sarg (j := 2) dL_law_919 dL_law_920 dL_law_921 rfl dL_law_922 dL_law_923 (by omega) hL ?_
  refine ev_sarg (j := 3) dL_law_924 dL_law_925 dL_law_926 rfl dL_law_927 dL_law_928 (by omega) hL ?_
  refine ev_callV (a := 10) (as := [.int (G.2.2.2.2.2 (i + 1)), .int (G.2.2.2.2.2 (i + 2)), .int (G.2.2.2.2.2 (i + 3))]) (st := []) ok_X7_cut vi_X7_cut ml_L_103 hcl_7 kd_10 dL_law_929 rfl rfl (Nat.le_of_ble_eq_true rfl) (Nat.le_of_ble_eq_true rfl) (by decide) e_b2 (pb_X7_cut hf hx (G.2.2.2.2.2 (i + 1)) (G.2.2.2.2.2 (i + 2)) (G.2.2.2.2.2 (i + 3))) ?_
  rintro v1 S1 μ1 ⟨rfl, rfl, hx1, hk1⟩ - - -
  have hm1 := hm.keptM hf hk1
  refine ev_aload_n dL_law_932 2 rfl (by decide) ?_
  refine ev_sarg (j := 1) dL_law_933 dL_law_934 dL_law_935 rfl dL_law_936 dL_law_937 (by omega) hL ?_
  refine ev_sarg (j := 2) dL_law_938 dL_law_939 dL_law_940 rfl dL_law_941 dL_law_942 (by omega) hL ?_
  refine ev_sarg (j := 3) dL_law_943 dL_law_944 dL_law_945 rfl dL_law_946 dL_law_947 (by omega) hL ?_
  refine ev_callV (a := 82) (as := [.int (G.2.2.2.2.2 (i + 1)), .int (G.2.2.2.2.2 (i + 2)), .int (G.2.2.2.2.2 (i + 3))]) (st := [_]) ok_X8_cut vi_X8_cut ml_L_106 hcl_8 kd_82 dL_law_948 rfl rfl (Nat.le_of_ble_eq_true rfl) (Nat.le_of_ble_eq_true rfl) (by decide) e_b2 (pb_X8_cut hf hm1 (G.2.2.2.2.2 (i + 1)) (G.2.2.2.2.2 (i + 2)) (G.2.2.2.2.2 (i + 3))) ?_
  rintro v2 S2 μ2 ⟨rfl, rfl, hm2, hk2⟩ - - -
  have hw := hf
  have hx2 := hx1.keptX hw hk2
  exact ev_icmp_eq (tgt := 1612) dL_law_951 rfl (fun _ => kk _ _ hw hx2 hm2) (fun c => absurd rfl c)
theorem law_c22 {G : GW} {K : Option Value → Mem → Prop} {α μ : Mem} {i : Nat} (hL : G.2.2.2.2.1 ≤ 3584) (hi : i + 7 ≤ G.2.2.2.2.1) (hf : WF α) (hx : VX α μ) (hm : VM α μ) (kk : lawK G i K) : Ev2 G mL_law 80 956 (lvL i) [] μ K := by
  refine ev_aload_n dL_law_956 1 rfl (by decide) ?_
  refine ev_sarg (j := 1) dL_law_957 dL_law_958 dL_law_959 rfl dL_law_960 dL_law_961 (by omega) hL ?_
  refine ev_sarg (j := 2) dL_law_962 dL_law_963 dL_law_964 rfl dL_law_965 dL_law_966 (by omega) hL ?_
  refine ev_sarg (j := 3) dL_law_967 dL_law_968 dL_law_969 rfl dL_law_970 dL_law_971 (by omega) hL ?_
  refine ev_callV (a := 10) (as := [.int (G.2.2.2.2.2 (i + 1)), .int (G.2.2.2.2.2 (i + 2)), .int (G.2.2.2.2.2 (i + 3))]) (st := []) ok_X7_lost vi_X7_lost ml_L_107 hcl_7 kd_10 dL_law_972 rfl rfl (Nat.le_of_ble_eq_true rfl) (Nat.le_of_ble_eq_true rfl) (by decide) e_b2 (pb_X7_lost hf hx (G.2.2.2.2.2 (i + 1)) (G.2.2.2.2.2 (i + 2)) (G.2.2.2.2.2 (i + 3))) ?_
  rintro v1 S1 μ1 ⟨rfl, rfl, hx1, hk1⟩ - - -
  have hm1 := hm.keptM hf hk1
  refine ev_aload_n dL_law_975 2 rfl (by decide) ?_
  refine ev_sarg (j := 1) dL_law_976 dL_law_977 dL_law_978 rfl dL_law_979 dL_law_980 (by omega) hL ?_
  refine ev_sarg (j := 2) dL_law_981 dL_law_982 dL_law_983 rfl dL_law_984 dL_law_985 (by omega) hL ?_
  refine ev_sarg (j := 3) dL_law_986 dL_law_987 dL_law_988 rfl dL_law_989 dL_law_990 (by omega) hL ?_
  refine ev_callV (a := 82) (as := [.int (G.2.2.2.2.2 (i + 1)), .int (G.2.2.2.2.2 (i + 2)), .int (G.2.2.2.2.2 (i + 3))]) (st := [_]) ok_X8_lost vi_X8_lost ml_L_111 hcl_8 kd_82 dL_law_991 rfl rfl (Nat.le_of_ble_eq_true rfl) (Nat.le_of_ble_eq_true rfl) (by decide) e_b2 (pb_X8_lost hf hm1 (G.2.2.2.2.2 (i + 1)) (G.2.2.2.2.2 (i + 2)) (G.2.2.2.2.2 (i + 3))) ?_
  rintro v2 S2 μ2 ⟨rfl, rfl, hm2, hk2⟩ - - -
  have hw := hf
  have hx2 := hx1.keptX hw hk2
  refine ev_lcmp dL_law_994 ?_
  rw [cmp_self]
  exact ev_if_eq (tgt := 1612) dL_law_995 rfl (fun _ => kk _ _ hw hx2 hm2) (fun c => absurd rfl c)
theorem law_c23 {G : GW} {K : Option Value → Mem → Prop} {α μ : Mem} {i : Nat} (hL : G.2.2.2.2.1 ≤ 3584) (hi : i + 7 ≤ G.2.2.2.2.1) (hf : WF α) (hx : VX α μ) (hm : VM α μ) (kk : lawK G i K) : Ev2 G mL_law 80 1000 (lvL i) [] μ K := by
  refine ev_aload_n dL_law_1000 1 rfl (by decide) ?_
  refine ev_sarg (j := 1) dL_law_1001 dL_law_1002 dL_law_1003 rfl dL_law_1004 dL_law_1005 (by omega) hL ?_
  refine ev_sarg (j := 2) dL_law_1006 dL_law_1007 dL_law_1008 rfl dL_law_1009 dL_law_1010 (by omega) hL ?_
  refine ev_sarg (j := 3) dL_law_1011 dL_law_1012 dL_law_1013 rfl dL_law_1014 dL_law_1015 (by omega) hL ?_
  refine ev_callV (a := 10) (as := [.int (G.2.2.2.2.2 (i + 1)), .int (G.2.2.2.2.2 (i + 2)), .int (G.2.2.2.2.2 (i + 3))]) (st := []) ok_X7_needed vi_X7_needed ml_L_112 hcl_7 kd_10 dL_law_1016 rfl rfl (Nat.le_of_ble_eq_true rfl) (Nat.le_of_ble_eq_true rfl) (by decide) e_b2 (pb_X7_needed hf hx (G.2.2.2.2.2 (i + 1)) (G.2.2.2.2.2 (i + 2)) (G.2.2.2.2.2 (i + 3))) ?_
  rintro v1 S1 μ1 ⟨rfl, rfl, hx1, hk1⟩ - - -
  have hm1 := hm.keptM hf hk1
  refine ev_aload_n dL_law_1019 2 rfl (by decide) ?_
  refine ev_sarg (j := 1) dL_law_1020 dL_law_1021 dL_law_1022 rfl dL_law_1023 dL_law_1024 (by omega) hL ?_
  refine ev_sarg (j := 2) dL_law_1025 dL_law_1026 dL_law_1027 rfl dL_law_1028 dL_law_1029 (by omega) hL ?_
  refine ev_sarg (j := 3) dL_law_1030 dL_law_1031 dL_law_1032 rfl dL_law_1033 dL_law_1034 (by omega) hL ?_
  refine ev_callV (a := 82) (as := [.int (G.2.2.2.2.2 (i + 1)), .int (G.2.2.2.2.2 (i + 2)), .int (G.2.2.2.2.2 (i + 3))]) (st := [_]) ok_X8_needed vi_X8_needed ml_L_115 hcl_8 kd_82 dL_law_1035 rfl rfl (Nat.le_of_ble_eq_true rfl) (Nat.le_of_ble_eq_true rfl) (by decide) e_b2 (pb_X8_needed hf hm1 (G.2.2.2.2.2 (i + 1)) (G.2.2.2.2.2 (i + 2)) (G.2.2.2.2.2 (i + 3))) ?_
  rintro v2 S2 μ2 ⟨rfl, rfl, hm2, hk2⟩ - - -
  have hw := hf
  have hx2 := hx1.keptX hw hk2
  exact ev_icmp_eq (tgt := 1612) dL_law_1038 rfl (fun _ => kk _ _ hw hx2 hm2) (fun c => absurd rfl c)
theorem law_c24 {G : GW} {K : Option Value → Mem → Prop} {α μ : Mem} {i : Nat} (hL : G.2.2.2.2.1 ≤ 3584) (hi : i + 7 ≤ G.2.2.2.2.1) (hf : WF α) (hx : VX α μ) (hm : VM α μ) (kk : lawK G i K) : Ev2 G mL_law 80 1043 (lvL i) [] μ K := by
  refine ev_aload_n dL_law_1043 1 rfl (by decide) ?_
  refine ev_sarg (j := 1) dL_law_1044 dL_law_1045 dL_law_1046 rfl dL_law_1047 dL_law_1048 (by omega) hL ?_
  refine ev_sarg (j := 2) dL_law_1049 dL_law_1050 dL_law_1051 rfl dL_law_1052 dL_law_1053 (by omega) hL ?_
  refine ev_callV (a := 10) (as := [.int (G.2.2.2.2.2 (i + 1)), .int (G.2.2.2.2.2 (i + 2))]) (st := []) ok_X7_again vi_X7_again ml_L_116 hcl_7 kd_10 dL_law_1054 rfl rfl (Nat.le_of_ble_eq_true rfl) (Nat.le_of_ble_eq_true rfl) (by decide) e_b2 (pb_X7_again hf hx (G.2.2.2.2.2 (i + 1)) (G.2.2.2.2.2 (i + 2))) ?_
  rintro v1 S1 μ1 ⟨rfl, rfl, hx1, hk1⟩ - - -
  have hm1 := hm.keptM hf hk1
  refine ev_aload_n dL_law_1057 2 rfl (by decide) ?_
  refine ev_sarg (j := 1) dL_law_1058 dL_law_1059 dL_law_1060 rfl dL_law_1061 dL_law_1062 (by omega) hL ?_
  refine ev_sarg (j := 2) dL_law_1063 dL_law_1064 dL_law_1065 rfl dL_law_1066 dL_law_1067 (by omega) hL ?_
  refine ev_callV (a := 82) (as := [.int (G.2.2.2.2.2 (i + 1)), .int (G.2.2.2.2.2 (i + 2))]) (st := [_]) ok_X8_again vi_X8_again ml_L_119 hcl_8 kd_82 dL_law_1068 rfl rfl (Nat.le_of_ble_eq_true rfl) (Nat.le_of_ble_eq_true rfl) (by decide) e_b2 (pb_X8_again hf hm1 (G.2.2.2.2.2 (i + 1)) (G.2.2.2.2.2 (i + 2))) ?_
  rintro v2 S2 μ2 ⟨rfl, rfl, hm2, hk2⟩ - - -
  have hw := hf
  have hx2 := hx1.keptX hw hk2
  exact ev_icmp_eq (tgt := 1612) dL_law_1071 rfl (fun _ => kk _ _ hw hx2 hm2) (fun c => absurd rfl c)
theorem law_c25 {G : GW} {K : Option Value → Mem → Prop} {α μ : Mem} {i : Nat} (hL : G.2.2.2.2.1 ≤ 3584) (hi : i + 7 ≤ G.2.2.2.2.1) (hf : WF α) (hx : VX α μ) (hm : VM α μ) (kk : lawK G i K) : Ev2 G mL_law 80 1076 (lvL i) [] μ K := by
  refine ev_aload_n dL_law_1076 1 rfl (by decide) ?_
  refine ev_sarg (j := 1) dL_law_1077 dL_law_1078 dL_law_1079 rfl dL_law_1080 dL_law_1081 (by omega) hL ?_
  refine ev_callV (a := 10) (as := [.int (G.2.2.2.2.2 (i + 1))]) (st := []) ok_X7_doctor vi_X7_doctor ml_L_120 hcl_7 kd_10 dL_law_1082 rfl rfl (Nat.le_of_ble_eq_true rfl) (Nat.le_of_ble_eq_true rfl) (by decide) e_b2 (pb_X7_doctor hf hx (G.2.2.2.2.2 (i + 1))) ?_
  rintro v1 S1 μ1 ⟨rfl, rfl, hx1, hk1⟩ - - -
  have hm1 := hm.keptM hf hk1
  refine ev_aload_n dL_law_1085 2 rfl (by decide) ?_
  refine ev_sarg (j := 1) dL_law_1086 dL_law_1087 dL_law_1088 rfl dL_law_1089 dL_law_1090 (by omega) hL ?_
  refine ev_callV (a := 82) (as := [.int (G.2.2.2.2.2 (i + 1))]) (st := [_]) ok_X8_doctor vi_X8_doctor ml_L_123 hcl_8 kd_82 dL_law_1091 rfl rfl (Nat.le_of_ble_eq_true rfl) (Nat.le_of_ble_eq_true rfl) (by decide) e_b2 (pb_X8_doctor hf hm1 (G.2.2.2.2.2 (i + 1))) ?_
  rintro v2 S2 μ2 ⟨rfl, rfl, hm2, hk2⟩ - - -
  have hw := hf
  have hx2 := hx1.keptX hw hk2
  exact ev_icmp_eq (tgt := 1612) dL_law_1094 rfl (fun _ => kk _ _ hw hx2 hm2) (fun c => absurd rfl c)
theorem law_c26 {G : GW} {K : Option Value → Mem → Prop} {α μ : Mem} {i : Nat} (hL : G.2.2.2.2.1 ≤ 3584) (hi : i + 7 ≤ G.2.2.2.2.1) (hf : WF α) (hx : VX α μ) (hm : VM α μ) (kk : lawK G i K) : Ev2 G mL_law 80 1099 (lvL i) [] μ K := by
  refine ev_aload_n dL_law_1099 1 rfl (by decide) ?_
  refine ev_sarg (j := 1) dL_law_1100 dL_law_1101 dL_law_1102 rfl dL_law_1103 dL_law_1104 (by omega) hL ?_
  refine ev_sarg (j := 2) dL_law_1105 dL_law_1106 dL_law_1107 rfl dL_law_1108 dL_law_1109 (by omega) hL ?_
  refine ev_sarg (j := 3) dL_law_1110 dL_law_1111 dL_law_1112 rfl dL_law_1113 dL_law_1114 (by omega) hL ?_
  refine ev_callV (a := 10) (as := [.int (G.2.2.2.2.2 (i + 1)), .int (G.2.2.2.2.2 (i + 2)), .int (G.2.2.2.2.2 (i + 3))]) (st := []) ok_X7_judge vi_X7_judge ml_L_124 hcl_7 kd_10 dL_law_1115 rfl rfl (Nat.le_of_ble_eq_true rfl) (Nat.le_of_ble_eq_true rfl) (by decide) e_b2 (pb_X7_judge hf hx (G.2.2.2.2.2 (i + 1)) (G.2.2.2.2.2 (i + 2)) (G.2.2.2.2.2 (i + 3))) ?_
  rintro v1 S1 μ1 ⟨rfl, rfl, hx1, hk1⟩ - - -
  have hm1 := hm.keptM hf hk1
  refine ev_aload_n dL_law_1118 2 rfl (by decide) ?_
  refine ev_sarg (j := 1) dL_law_1119 dL_law_1120 dL_law_1121 rfl dL_law_1122 dL_law_1123 (by omega) hL ?_
  refine ev_sarg (j := 2) dL_law_1124 dL_law_1125 dL_law_1126 rfl dL_law_1127 dL_law_1128 (by omega) hL ?_
  refine ev_sarg (j := 3) dL_law_1129 dL_law_1130 dL_law_1131 rfl dL_law_1132 dL_law_1133 (by omega) hL ?_
  refine ev_callV (a := 82) (as := [.int (G.2.2.2.2.2 (i + 1)), .int (G.2.2.2.2.2 (i + 2)), .int (G.2.2.2.2.2 (i + 3))]) (st := [_]) ok_X8_judge vi_X8_judge ml_L_127 hcl_8 kd_82 dL_law_1134 rfl rfl (Nat.le_of_ble_eq_true rfl) (Nat.le_of_ble_eq_true rfl) (by decide) e_b2 (pb_X8_judge hf hm1 (G.2.2.2.2.2 (i + 1)) (G.2.2.2.2.2 (i + 2)) (G.2.2.2.2.2 (i + 3))) ?_
  rintro v2 S2 μ2 ⟨rfl, rfl, hm2, hk2⟩ - - -
  have hw := hf
  have hx2 := hx1.keptX hw hk2
  exact ev_icmp_eq (tgt := 1612) dL_law_1137 rfl (fun _ => kk _ _ hw hx2 hm2) (fun c => absurd rfl c)
theorem law_c27 {G : GW} {K : Option Value → Mem → Prop} {α μ : Mem} {i : Nat} (hL : G.2.2.2.2.1 ≤ 3584) (hi : i + 7 ≤ G.2.2.2.2.1) (hf : WF α) (hx : VX α μ) (hm : VM α μ) (kk : lawK G i K) : Ev2 G mL_law 80 1142 (lvL i) [] μ K := by
  refine ev_aload_n dL_law_1142 1 rfl (by decide) ?_
  refine ev_sarg (j := 1) dL_law_1143 dL_law_1144 dL_law_1145 rfl dL_law_1146 dL_law_1147 (by omega) hL ?_
  refine ev_sarg (j := 2) dL_law_1148 dL_law_1149 dL_law_1150 rfl dL_law_1151 dL_law_1152 (by omega) hL ?_
  refine ev_callV (a := 10) (as := [.int (G.2.2.2.2.2 (i + 1)), .int (G.2.2.2.2.2 (i + 2))]) (st := []) ok_X7_wet vi_X7_wet ml_L_128 hcl_7 kd_10 dL_law_1153 rfl rfl (Nat.le_of_ble_eq_true rfl) (Nat.le_of_ble_eq_true rfl) (by decide) e_b2 (pb_X7_wet hf hx (G.2.2.2.2.2 (i + 1)) (G.2.2.2.2.2 (i + 2))) ?_
  rintro v1 S1 μ1 ⟨rfl, rfl, hx1, hk1⟩ - - -
  have hm1 := hm.keptM hf hk1
  refine ev_aload_n dL_law_1156 2 rfl (by decide) ?_
  refine ev_sarg (j := 1) dL_law_1157 dL_law_1158 dL_law_1159 rfl dL_law_1160 dL_law_1161 (by omega) hL ?_
  refine ev_sarg (j := 2) dL_law_1162 dL_law_1163 dL_law_1164 rfl dL_law_1165 dL_law_1166 (by omega) hL ?_
  refine ev_callV (a := 82) (as := [.int (G.2.2.2.2.2 (i + 1)), .int (G.2.2.2.2.2 (i + 2))]) (st := [_]) ok_X8_wet vi_X8_wet ml_L_131 hcl_8 kd_82 dL_law_1167 rfl rfl (Nat.le_of_ble_eq_true rfl) (Nat.le_of_ble_eq_true rfl) (by decide) e_b2 (pb_X8_wet hf hm1 (G.2.2.2.2.2 (i + 1)) (G.2.2.2.2.2 (i + 2))) ?_
  rintro v2 S2 μ2 ⟨rfl, rfl, hm2, hk2⟩ - - -
  have hw := hf
  have hx2 := hx1.keptX hw hk2
  exact ev_icmp_eq (tgt := 1612) dL_law_1170 rfl (fun _ => kk _ _ hw hx2 hm2) (fun c => absurd rfl c)
theorem law_c28 {G : GW} {K : Option Value → Mem → Prop} {α μ : Mem} {i : Nat} (hL : G.2.2.2.2.1 ≤ 3584) (hi : i + 7 ≤ G.2.2.2.2.1) (hf : WF α) (hx : VX α μ) (hm : VM α μ) (kk : lawK G i K) : Ev2 G mL_law 80 1175 (lvL i) [] μ K := by
  refine ev_aload_n dL_law_1175 1 rfl (by decide) ?_
  refine ev_sarg (j := 1) dL_law_1176 dL_law_1177 dL_law_1178 rfl dL_law_1179 dL_law_1180 (by omega) hL ?_
  refine ev_callV (a := 10) (as := [.int (G.2.2.2.2.2 (i + 1))]) (st := []) ok_X7_whence vi_X7_whence ml_L_132 hcl_7 kd_10 dL_law_1181 rfl rfl (Nat.le_of_ble_eq_true rfl) (Nat.le_of_ble_eq_true rfl) (by decide) e_b2 (pb_X7_whence hf hx (G.2.2.2.2.2 (i + 1))) ?_
  rintro v1 S1 μ1 ⟨rfl, rfl, hx1, hk1⟩ - - -
  have hm1 := hm.keptM hf hk1
  refine ev_aload_n dL_law_1184 2 rfl (by decide) ?_
  refine ev_sarg (j := 1) dL_law_1185 dL_law_1186 dL_law_1187 rfl dL_law_1188 dL_law_1189 (by omega) hL ?_
  refine ev_callV (a := 82) (as := [.int (G.2.2.2.2.2 (i + 1))]) (st := [_]) ok_X8_whence vi_X8_whence ml_L_135 hcl_8 kd_82 dL_law_1190 rfl rfl (Nat.le_of_ble_eq_true rfl) (Nat.le_of_ble_eq_true rfl) (by decide) e_b2 (pb_X8_whence hf hm1 (G.2.2.2.2.2 (i + 1))) ?_
  rintro v2 S2 μ2 ⟨rfl, rfl, hm2, hk2⟩ - - -
  have hw := hf
  have hx2 := hx1.keptX hw hk2
  exact ev_icmp_eq (tgt := 1612) dL_law_1193 rfl (fun _ => kk _ _ hw hx2 hm2) (fun c => absurd rfl c)
theorem law_c29 {G : GW} {K : Option Value → Mem → Prop} {α μ : Mem} {i : Nat} (hL : G.2.2.2.2.1 ≤ 3584) (hi : i + 7 ≤ G.2.2.2.2.1) (hf : WF α) (hx : VX α μ) (hm : VM α μ) (kk : lawK G i K) : Ev2 G mL_law 80 1198 (lvL i) [] μ K := by
  refine ev_aload_n dL_law_1198 1 rfl (by decide) ?_
  refine ev_sarg (j := 1) dL_law_1199 dL_law_1200 dL_law_1201 rfl dL_law_1202 dL_law_1203 (by omega) hL ?_
  refine ev_sarg (j := 2) dL_law_1204 dL_law_1205 dL_law_1206 rfl dL_law_1207 dL_law_1208 (by omega) hL ?_
  refine ev_callV (a := 10) (as := [.int (G.2.2.2.2.2 (i + 1)), .int (G.2.2.2.2.2 (i + 2))]) (st := []) ok_X7_laws vi_X7_laws ml_L_136 hcl_7 kd_10 dL_law_1209 rfl rfl (Nat.le_of_ble_eq_true rfl) (Nat.le_of_ble_eq_true rfl) (by decide) e_b2 (pb_X7_laws hf hx (G.2.2.2.2.2 (i + 1)) (G.2.2.2.2.2 (i + 2))) ?_
  rintro v1 S1 μ1 ⟨rfl, rfl, hx1, hk1⟩ - - -
  have hm1 := hm.keptM hf hk1
  refine ev_aload_n dL_law_1212 2 rfl (by decide) ?_
  refine ev_sarg (j := 1) dL_law_1213 dL_law_1214 dL_law_1215 rfl dL_law_1216 dL_law_1217 (by omega) hL ?_
  refine ev_sarg (j := 2) dL_law_1218 dL_law_1219 dL_law_1220 rfl dL_law_1221 dL_law_1222 (by omega) hL ?_
  refine ev_callV (a := 82) (as := [.int (G.2.2.2.2.2 (i + 1)), .int (G.2.2.2.2.2 (i + 2))]) (st := [_]) ok_X8_laws vi_X8_laws ml_L_139 hcl_8 kd_82 dL_law_1223 rfl rfl (Nat.le_of_ble_eq_true rfl) (Nat.le_of_ble_eq_true rfl) (by decide) e_b2 (pb_X8_laws hf hm1 (G.2.2.2.2.2 (i + 1)) (G.2.2.2.2.2 (i + 2))) ?_
  rintro v2 S2 μ2 ⟨rfl, rfl, hm2, hk2⟩ - - -
  have hw := hf
  have hx2 := hx1.keptX hw hk2
  exact ev_icmp_eq (tgt := 1612) dL_law_1226 rfl (fun _ => kk _ _ hw hx2 hm2) (fun c => absurd rfl c)
theorem law_c30 {G : GW} {K : Option Value → Mem → Prop} {α μ : Mem} {i : Nat} (hL : G.2.2.2.2.1 ≤ 3584) (hi : i + 7 ≤ G.2.2.2.2.1) (hf : WF α) (hx : VX α μ) (hm : VM α μ) (kk : lawK G i K) : Ev2 G mL_law 80 1231 (lvL i) [] μ K := by
  refine ev_aload_n dL_law_1231 1 rfl (by decide) ?_
  refine ev_sarg (j := 1) dL_law_1232 dL_law_1233 dL_law_1234 rfl dL_law_1235 dL_law_1236 (by omega) hL ?_
  refine ev_sarg (j := 2) dL_law_1237 dL_law_1238 dL_law_1239 rfl dL_law_1240 dL_law_1241 (by omega) hL ?_
  refine ev_callV (a := 10) (as := [.int (G.2.2.2.2.2 (i + 1)), .int (G.2.2.2.2.2 (i + 2))]) (st := []) ok_X7_film vi_X7_film ml_L_140 hcl_7 kd_10 dL_law_1242 rfl rfl (Nat.le_of_ble_eq_true rfl) (Nat.le_of_ble_eq_true rfl) (by decide) e_b2 (pb_X7_film hf hx (G.2.2.2.2.2 (i + 1)) (G.2.2.2.2.2 (i + 2))) ?_
  rintro v1 S1 μ1 ⟨rfl, rfl, hx1, hk1⟩ - - -
  have hm1 := hm.keptM hf hk1
  refine ev_aload_n dL_law_1245 2 rfl (by decide) ?_
  refine ev_sarg (j := 1) dL_law_1246 dL_law_1247 dL_law_1248 rfl dL_law_1249 dL_law_1250 (by omega) hL ?_
  refine ev_sarg (j := 2) dL_law_1251 dL_law_1252 dL_law_1253 rfl dL_law_1254 dL_law_1255 (by omega) hL ?_
  refine ev_callV (a := 82) (as := [.int (G.2.2.2.2.2 (i + 1)), .int (G.2.2.2.2.2 (i + 2))]) (st := [_]) ok_X8_film vi_X8_film ml_L_143 hcl_8 kd_82 dL_law_1256 rfl rfl (Nat.le_of_ble_eq_true rfl) (Nat.le_of_ble_eq_true rfl) (by decide) e_b2 (pb_X8_film hf hm1 (G.2.2.2.2.2 (i + 1)) (G.2.2.2.2.2 (i + 2))) ?_
  rintro v2 S2 μ2 ⟨rfl, rfl, hm2, hk2⟩ - - -
  have hw := (wf_film hf (G.2.2.2.2.2 (i + 1)) (G.2.2.2.2.2 (i + 2)))
  have hx2 := hx1.keptX hw hk2
  exact ev_icmp_eq (tgt := 1612) dL_law_1259 rfl (fun _ => kk _ _ hw hx2 hm2) (fun c => absurd rfl c)
theorem law_c31 {G : GW} {K : Option Value → Mem → Prop} {α μ : Mem} {i : Nat} (hL : G.2.2.2.2.1 ≤ 3584) (hi : i + 7 ≤ G.2.2.2.2.1) (hf : WF α) (hx : VX α μ) (hm : VM α μ) (kk : lawK G i K) : Ev2 G mL_law 80 1264 (lvL i) [] μ K := by
  refine ev_aload_n dL_law_1264 1 rfl (by decide) ?_
  refine ev_sarg (j := 1) dL_law_1265 dL_law_1266 dL_law_1267 rfl dL_law_1268 dL_law_1269 (by omega) hL ?_
  refine ev_callV (a := 10) (as := [.int (G.2.2.2.2.2 (i + 1))]) (st := []) ok_X7_drawn vi_X7_drawn ml_L_144 hcl_7 kd_10 dL_law_1270 rfl rfl (Nat.le_of_ble_eq_true rfl) (Nat.le_of_ble_eq_true rfl) (by decide) e_b2 (pb_X7_drawn hf hx (G.2.2.2.2.2 (i + 1))) ?_
  rintro v1 S1 μ1 ⟨rfl, rfl, hx1, hk1⟩ - - -
  have hm1 := hm.keptM hf hk1
  refine ev_aload_n dL_law_1273 2 rfl (by decide) ?_
  refine ev_sarg (j := 1) dL_law_1274 dL_law_1275 dL_law_1276 rfl dL_law_1277 dL_law_1278 (by omega) hL ?_
  refine ev_callV (a := 82) (as := [.int (G.2.2.2.2.2 (i + 1))]) (st := [_]) ok_X8_drawn vi_X8_drawn ml_L_147 hcl_8 kd_82 dL_law_1279 rfl rfl (Nat.le_of_ble_eq_true rfl) (Nat.le_of_ble_eq_true rfl) (by decide) e_b2 (pb_X8_drawn hf hm1 (G.2.2.2.2.2 (i + 1))) ?_
  rintro v2 S2 μ2 ⟨rfl, rfl, hm2, hk2⟩ - - -
  have hw := hf
  have hx2 := hx1.keptX hw hk2
  exact ev_icmp_eq (tgt := 1612) dL_law_1282 rfl (fun _ => kk _ _ hw hx2 hm2) (fun c => absurd rfl c)
theorem law_c32 {G : GW} {K : Option Value → Mem → Prop} {α μ : Mem} {i : Nat} (hL : G.2.2.2.2.1 ≤ 3584) (hi : i + 7 ≤ G.2.2.2.2.1) (hf : WF α) (hx : VX α μ) (hm : VM α μ) (kk : lawK G i K) : Ev2 G mL_law 80 1287 (lvL i) [] μ K := by
  refine ev_aload_n dL_law_1287 1 rfl (by decide) ?_
  refine ev_sarg (j := 1) dL_law_1288 dL_law_1289 dL_law_1290 rfl dL_law_1291 dL_law_1292 (by omega) hL ?_
  refine ev_sarg (j := 2) dL_law_1293 dL_law_1294 dL_law_1295 rfl dL_law_1296 dL_law_1297 (by omega) hL ?_
  refine ev_sarg (j := 3) dL_law_1298 dL_law_1299 dL_law_1300 rfl dL_law_1301 dL_law_1302 (by omega) hL ?_
  refine ev_sarg (j := 4) dL_law_1303 dL_law_1304 dL_law_1305 rfl dL_law_1306 dL_law_1307 (by omega) hL ?_
  refine ev_sarg (j := 5) dL_law_1308 dL_law_1309 dL_law_1310 rfl dL_law_1311 dL_law_1312 (by omega) hL ?_
  refine ev_callV (a := 10) (as := [.int (G.2.2.2.2.2 (i + 1)), .int (G.2.2.2.2.2 (i + 2)), .int (G.2.2.2.2.2 (i + 3)), .int (G.2.2.2.2.2 (i + 4)), .int (G.2.2.2.2.2 (i + 5))]) (st := []) ok_X7_mean vi_X7_mean ml_L_148 hcl_7 kd_10 dL_law_1313 rfl rfl (Nat.le_of_ble_eq_true rfl) (Nat.le_of_ble_eq_true rfl) (by decide) e_b2 (pb_X7_mean hf hx (G.2.2.2.2.2 (i + 1)) (G.2.2.2.2.2 (i + 2)) (G.2.2.2.2.2 (i + 3)) (G.2.2.2.2.2 (i + 4)) (G.2.2.2.2.2 (i + 5))) ?_
  rintro v1 S1 μ1 ⟨rfl, rfl, hx1, hk1⟩ - - -
  have hm1 := hm.keptM hf hk1
  refine ev_aload_n dL_law_1316 2 rfl (by decide) ?_
  refine ev_sarg (j := 1) dL_law_1317 dL_law_1318 dL_law_1319 rfl dL_law_1320 dL_law_1321 (by omega) hL ?_
  refine ev_sarg (j := 2) dL_law_1322 dL_law_1323 dL_law_1324 rfl dL_law_1325 dL_law_1326 (by omega) hL ?_
  refine ev_sarg (j := 3) dL_law_1327 dL_law_1328 dL_law_1329 rfl dL_law_1330 dL_law_1331 (by omega) hL ?_
  refine ev_sarg (j := 4) dL_law_1332 dL_law_1333 dL_law_1334 rfl dL_law_1335 dL_law_1336 (by omega) hL ?_
  refine ev_sarg (j := 5) dL_law_1337 dL_law_1338 dL_law_1339 rfl dL_law_1340 dL_law_1341 (by omega) hL ?_
  refine ev_callV (a := 82) (as := [.int (G.2.2.2.2.2 (i + 1)), .int (G.2.2.2.2.2 (i + 2)), .int (G.2.2.2.2.2 (i + 3)), .int (G.2.2.2.2.2 (i + 4)), .int (G.2.2.2.2.2 (i + 5))]) (st := [_]) ok_X8_mean vi_X8_mean ml_L_152 hcl_8 kd_82 dL_law_1342 rfl rfl (Nat.le_of_ble_eq_true rfl) (Nat.le_of_ble_eq_true rfl) (by decide) e_b2 (pb_X8_mean hf hm1 (G.2.2.2.2.2 (i + 1)) (G.2.2.2.2.2 (i + 2)) (G.2.2.2.2.2 (i + 3)) (G.2.2.2.2.2 (i + 4)) (G.2.2.2.2.2 (i + 5))) ?_
  rintro v2 S2 μ2 ⟨rfl, rfl, hm2, hk2⟩ - - -
  have hw := hf
  have hx2 := hx1.keptX hw hk2
  refine ev_lcmp dL_law_1345 ?_
  rw [cmp_self]
  exact ev_if_eq (tgt := 1612) dL_law_1346 rfl (fun _ => kk _ _ hw hx2 hm2) (fun c => absurd rfl c)
theorem law_c33 {G : GW} {K : Option Value → Mem → Prop} {α μ : Mem} {i : Nat} (hL : G.2.2.2.2.1 ≤ 3584) (hi : i + 7 ≤ G.2.2.2.2.1) (hf : WF α) (hx : VX α μ) (hm : VM α μ) (kk : lawK G i K) : Ev2 G mL_law 80 1351 (lvL i) [] μ K := by
  refine ev_aload_n dL_law_1351 1 rfl (by decide) ?_
  refine ev_callV (a := 10) (as := []) (st := []) ok_X7_image vi_X7_image ml_L_153 hcl_7 kd_10 dL_law_1352 rfl rfl (Nat.le_of_ble_eq_true rfl) (Nat.le_of_ble_eq_true rfl) (by decide) e_b2 (pb_X7_image hf hx ) ?_
  rintro v1 S1 μ1 ⟨rfl, rfl, hx1, hk1⟩ - - -
  have hm1 := hm.keptM hf hk1
  refine ev_aload_n dL_law_1355 2 rfl (by decide) ?_
  refine ev_callV (a := 82) (as := []) (st := [_]) ok_X8_image vi_X8_image ml_L_156 hcl_8 kd_82 dL_law_1356 rfl rfl (Nat.le_of_ble_eq_true rfl) (Nat.le_of_ble_eq_true rfl) (by decide) e_b2 (pb_X8_image hf hm1 ) ?_
  rintro v2 S2 μ2 ⟨rfl, rfl, hm2, hk2⟩ - - -
  have hw := (wf_image hf)
  have hx2 := hx1.keptX hw hk2
  exact ev_icmp_eq (tgt := 1612) dL_law_1359 rfl (fun _ => kk _ _ hw hx2 hm2) (fun c => absurd rfl c)
theorem law_c34 {G : GW} {K : Option Value → Mem → Prop} {α μ : Mem} {i : Nat} (hL : G.2.2.2.2.1 ≤ 3584) (hi : i + 7 ≤ G.2.2.2.2.1) (hf : WF α) (hx : VX α μ) (hm : VM α μ) (kk : lawK G i K) : Ev2 G mL_law 80 1364 (lvL i) [] μ K := by
  refine ev_aload_n dL_law_1364 1 rfl (by decide) ?_
  refine ev_callV (a := 10) (as := []) (st := []) ok_X7_back vi_X7_back ml_L_157 hcl_7 kd_10 dL_law_1365 rfl rfl (Nat.le_of_ble_eq_true rfl) (Nat.le_of_ble_eq_true rfl) (by decide) e_b2 (pb_X7_back hf hx ) ?_
  rintro v1 S1 μ1 ⟨rfl, rfl, hx1, hk1⟩ - - -
  have hm1 := hm.keptM hf hk1
  refine ev_aload_n dL_law_1368 2 rfl (by decide) ?_
  refine ev_callV (a := 82) (as := []) (st := [_]) ok_X8_back vi_X8_back ml_L_160 hcl_8 kd_82 dL_law_1369 rfl rfl (Nat.le_of_ble_eq_true rfl) (Nat.le_of_ble_eq_true rfl) (by decide) e_b2 (pb_X8_back hf hm1 ) ?_
  rintro v2 S2 μ2 ⟨rfl, rfl, hm2, hk2⟩ - - -
  have hw := (wf_back hf)
  have hx2 := hx1.keptX hw hk2
  exact ev_icmp_eq (tgt := 1612) dL_law_1372 rfl (fun _ => kk _ _ hw hx2 hm2) (fun c => absurd rfl c)
theorem law_c35 {G : GW} {K : Option Value → Mem → Prop} {α μ : Mem} {i : Nat} (hL : G.2.2.2.2.1 ≤ 3584) (hi : i + 7 ≤ G.2.2.2.2.1) (hf : WF α) (hx : VX α μ) (hm : VM α μ) (kk : lawK G i K) : Ev2 G mL_law 80 1377 (lvL i) [] μ K := by
  refine ev_aload_n dL_law_1377 1 rfl (by decide) ?_
  refine ev_sarg (j := 1) dL_law_1378 dL_law_1379 dL_law_1380 rfl dL_law_1381 dL_law_1382 (by omega) hL ?_
  refine ev_sarg (j := 2) dL_law_1383 dL_law_1384 dL_law_1385 rfl dL_law_1386 dL_law_1387 (by omega) hL ?_
  refine ev_sarg (j := 3) dL_law_1388 dL_law_1389 dL_law_1390 rfl dL_law_1391 dL_law_1392 (by omega) hL ?_
  refine ev_callV (a := 10) (as := [.int (G.2.2.2.2.2 (i + 1)), .int (G.2.2.2.2.2 (i + 2)), .int (G.2.2.2.2.2 (i + 3))]) (st := []) ok_X7_sheet vi_X7_sheet ml_L_161 hcl_7 kd_10 dL_law_1393 rfl rfl (Nat.le_of_ble_eq_true rfl) (Nat.le_of_ble_eq_true rfl) (by decide) e_b2 (pb_X7_sheet hf hx (G.2.2.2.2.2 (i + 1)) (G.2.2.2.2.2 (i + 2)) (G.2.2.2.2.2 (i + 3))) ?_
  rintro v1 S1 μ1 ⟨rfl, rfl, hx1, hk1⟩ - - -
  have hm1 := hm.keptM hf hk1
  refine ev_aload_n dL_law_1396 2 rfl (by decide) ?_
  refine ev_sarg (j := 1) dL_law_1397 dL_law_1398 dL_law_1399 rfl dL_law_1400 dL_law_1401 (by omega) hL ?_
  refine ev_sarg (j := 2) dL_law_1402 dL_law_1403 dL_law_1404 rfl dL_law_1405 dL_law_1406 (by omega) hL ?_
  refine ev_sarg (j := 3) dL_law_1407 dL_law_1408 dL_law_1409 rfl dL_law_1410 dL_law_1411 (by omega) hL ?_
  refine ev_callV (a := 82) (as := [.int (G.2.2.2.2.2 (i + 1)), .int (G.2.2.2.2.2 (i + 2)), .int (G.2.2.2.2.2 (i + 3))]) (st := [_]) ok_X8_sheet vi_X8_sheet ml_L_164 hcl_8 kd_82 dL_law_1412 rfl rfl (Nat.le_of_ble_eq_true rfl) (Nat.le_of_ble_eq_true rfl) (by decide) e_b2 (pb_X8_sheet hf hm1 (G.2.2.2.2.2 (i + 1)) (G.2.2.2.2.2 (i + 2)) (G.2.2.2.2.2 (i + 3))) ?_
  rintro v2 S2 μ2 ⟨rfl, rfl, hm2, hk2⟩ - - -
  have hw := (wf_sheet hf (G.2.2.2.2.2 (i + 1)) (G.2.2.2.2.2 (i + 2)) (G.2.2.2.2.2 (i + 3)))
  have hx2 := hx1.keptX hw hk2
  exact ev_icmp_eq (tgt := 1612) dL_law_1415 rfl (fun _ => kk _ _ hw hx2 hm2) (fun c => absurd rfl c)
theorem law_c36 {G : GW} {K : Option Value → Mem → Prop} {α μ : Mem} {i : Nat} (hL : G.2.2.2.2.1 ≤ 3584) (hi : i + 7 ≤ G.2.2.2.2.1) (hf : WF α) (hx : VX α μ) (hm : VM α μ) (kk : lawK G i K) : Ev2 G mL_law 80 1420 (lvL i) [] μ K := by
  refine ev_aload_n dL_law_1420 1 rfl (by decide) ?_
  refine ev_sarg (j := 1) dL_law_1421 dL_law_1422 dL_law_1423 rfl dL_law_1424 dL_law_1425 (by omega) hL ?_
  refine ev_sarg (j := 2) dL_law_1426 dL_law_1427 dL_law_1428 rfl dL_law_1429 dL_law_1430 (by omega) hL ?_
  refine ev_sarg (j := 3) dL_law_1431 dL_law_1432 dL_law_1433 rfl dL_law_1434 dL_law_1435 (by omega) hL ?_
  refine ev_callV (a := 10) (as := [.int (G.2.2.2.2.2 (i + 1)), .int (G.2.2.2.2.2 (i + 2)), .int (G.2.2.2.2.2 (i + 3))]) (st := []) ok_X7_cell vi_X7_cell ml_L_165 hcl_7 kd_10 dL_law_1436 rfl rfl (Nat.le_of_ble_eq_true rfl) (Nat.le_of_ble_eq_true rfl) (by decide) e_b2 (pb_X7_cell hf hx (G.2.2.2.2.2 (i + 1)) (G.2.2.2.2.2 (i + 2)) (G.2.2.2.2.2 (i + 3))) ?_
  rintro v1 S1 μ1 ⟨rfl, rfl, hx1, hk1⟩ - - -
  have hm1 := hm.keptM hf hk1
  refine ev_aload_n dL_law_1439 2 rfl (by decide) ?_
  refine ev_sarg (j := 1) dL_law_1440 dL_law_1441 dL_law_1442 rfl dL_law_1443 dL_law_1444 (by omega) hL ?_
  refine ev_sarg (j := 2) dL_law_1445 dL_law_1446 dL_law_1447 rfl dL_law_1448 dL_law_1449 (by omega) hL ?_
  refine ev_sarg (j := 3) dL_law_1450 dL_law_1451 dL_law_1452 rfl dL_law_1453 dL_law_1454 (by omega) hL ?_
  refine ev_callV (a := 82) (as := [.int (G.2.2.2.2.2 (i + 1)), .int (G.2.2.2.2.2 (i + 2)), .int (G.2.2.2.2.2 (i + 3))]) (st := [_]) ok_X8_cell vi_X8_cell ml_L_168 hcl_8 kd_82 dL_law_1455 rfl rfl (Nat.le_of_ble_eq_true rfl) (Nat.le_of_ble_eq_true rfl) (by decide) e_b2 (pb_X8_cell hf hm1 (G.2.2.2.2.2 (i + 1)) (G.2.2.2.2.2 (i + 2)) (G.2.2.2.2.2 (i + 3))) ?_
  rintro v2 S2 μ2 ⟨rfl, rfl, hm2, hk2⟩ - - -
  have hw := (wf_cell hf (G.2.2.2.2.2 (i + 1)) (G.2.2.2.2.2 (i + 2)) (G.2.2.2.2.2 (i + 3)))
  have hx2 := hx1.keptX hw hk2
  exact ev_icmp_eq (tgt := 1612) dL_law_1458 rfl (fun _ => kk _ _ hw hx2 hm2) (fun c => absurd rfl c)
theorem law_c37 {G : GW} {K : Option Value → Mem → Prop} {α μ : Mem} {i : Nat} (hL : G.2.2.2.2.1 ≤ 3584) (hi : i + 7 ≤ G.2.2.2.2.1) (hf : WF α) (hx : VX α μ) (hm : VM α μ) (kk : lawK G i K) : Ev2 G mL_law 80 1463 (lvL i) [] μ K := by
  refine ev_aload_n dL_law_1463 1 rfl (by decide) ?_
  refine ev_sarg (j := 1) dL_law_1464 dL_law_1465 dL_law_1466 rfl dL_law_1467 dL_law_1468 (by omega) hL ?_
  refine ev_sarg (j := 2) dL_law_1469 dL_law_1470 dL_law_1471 rfl dL_law_1472 dL_law_1473 (by omega) hL ?_
  refine ev_sarg (j := 3) dL_law_1474 dL_law_1475 dL_law_1476 rfl dL_law_1477 dL_law_1478 (by omega) hL ?_
  refine ev_sarg (j := 4) dL_law_1479 dL_law_1480 dL_law_1481 rfl dL_law_1482 dL_law_1483 (by omega) hL ?_
  refine ev_sarg (j := 5) dL_law_1484 dL_law_1485 dL_law_1486 rfl dL_law_1487 dL_law_1488 (by omega) hL ?_
  refine ev_callV (a := 10) (as := [.int (G.2.2.2.2.2 (i + 1)), .int (G.2.2.2.2.2 (i + 2)), .int (G.2.2.2.2.2 (i + 3)), .int (G.2.2.2.2.2 (i + 4)), .int (G.2.2.2.2.2 (i + 5))]) (st := []) ok_X7_copy vi_X7_copy ml_L_169 hcl_7 kd_10 dL_law_1489 rfl rfl (Nat.le_of_ble_eq_true rfl) (Nat.le_of_ble_eq_true rfl) (by decide) e_b2 (pb_X7_copy hf hx (G.2.2.2.2.2 (i + 1)) (G.2.2.2.2.2 (i + 2)) (G.2.2.2.2.2 (i + 3)) (G.2.2.2.2.2 (i + 4)) (G.2.2.2.2.2 (i + 5))) ?_
  rintro v1 S1 μ1 ⟨rfl, rfl, hx1, hk1⟩ - - -
  have hm1 := hm.keptM hf hk1
  refine ev_aload_n dL_law_1492 2 rfl (by decide) ?_
  refine ev_sarg (j := 1) dL_law_1493 dL_law_1494 dL_law_1495 rfl dL_law_1496 dL_law_1497 (by omega) hL ?_
  refine ev_sarg (j := 2) dL_law_1498 dL_law_1499 dL_law_1500 rfl dL_law_1501 dL_law_1502 (by omega) hL ?_
  refine ev_sarg (j := 3) dL_law_1503 dL_law_1504 dL_law_1505 rfl dL_law_1506 dL_law_1507 (by omega) hL ?_
  refine ev_sarg (j := 4) dL_law_1508 dL_law_1509 dL_law_1510 rfl dL_law_1511 dL_law_1512 (by omega) hL ?_
  refine ev_sarg (j := 5) dL_law_1513 dL_law_1514 dL_law_1515 rfl dL_law_1516 dL_law_1517 (by omega) hL ?_
  refine ev_callV (a := 82) (as := [.int (G.2.2.2.2.2 (i + 1)), .int (G.2.2.2.2.2 (i + 2)), .int (G.2.2.2.2.2 (i + 3)), .int (G.2.2.2.2.2 (i + 4)), .int (G.2.2.2.2.2 (i + 5))]) (st := [_]) ok_X8_copy vi_X8_copy ml_L_173 hcl_8 kd_82 dL_law_1518 rfl rfl (Nat.le_of_ble_eq_true rfl) (Nat.le_of_ble_eq_true rfl) (by decide) e_b2 (pb_X8_copy hf hm1 (G.2.2.2.2.2 (i + 1)) (G.2.2.2.2.2 (i + 2)) (G.2.2.2.2.2 (i + 3)) (G.2.2.2.2.2 (i + 4)) (G.2.2.2.2.2 (i + 5))) ?_
  rintro v2 S2 μ2 ⟨rfl, rfl, hm2, hk2⟩ - - -
  have hw := (wf_copy hf (G.2.2.2.2.2 (i + 1)) (G.2.2.2.2.2 (i + 2)) (G.2.2.2.2.2 (i + 3)) (G.2.2.2.2.2 (i + 4)) (G.2.2.2.2.2 (i + 5)))
  have hx2 := hx1.keptX hw hk2
  exact ev_icmp_eq (tgt := 1612) dL_law_1521 rfl (fun _ => kk _ _ hw hx2 hm2) (fun c => absurd rfl c)
theorem law_c38 {G : GW} {K : Option Value → Mem → Prop} {α μ : Mem} {i : Nat} (hL : G.2.2.2.2.1 ≤ 3584) (hi : i + 7 ≤ G.2.2.2.2.1) (hf : WF α) (hx : VX α μ) (hm : VM α μ) (kk : lawK G i K) : Ev2 G mL_law 80 1526 (lvL i) [] μ K := by
  refine ev_aload_n dL_law_1526 1 rfl (by decide) ?_
  refine ev_sarg (j := 1) dL_law_1527 dL_law_1528 dL_law_1529 rfl dL_law_1530 dL_law_1531 (by omega) hL ?_
  refine ev_sarg (j := 2) dL_law_1532 dL_law_1533 dL_law_1534 rfl dL_law_1535 dL_law_1536 (by omega) hL ?_
  refine ev_sarg (j := 3) dL_law_1537 dL_law_1538 dL_law_1539 rfl dL_law_1540 dL_law_1541 (by omega) hL ?_
  refine ev_sarg (j := 4) dL_law_1542 dL_law_1543 dL_law_1544 rfl dL_law_1545 dL_law_1546 (by omega) hL ?_
  refine ev_callV (a := 10) (as := [.int (G.2.2.2.2.2 (i + 1)), .int (G.2.2.2.2.2 (i + 2)), .int (G.2.2.2.2.2 (i + 3)), .int (G.2.2.2.2.2 (i + 4))]) (st := []) ok_X7_horsesBy vi_X7_horsesBy ml_L_174 hcl_7 kd_10 dL_law_1547 rfl rfl (Nat.le_of_ble_eq_true rfl) (Nat.le_of_ble_eq_true rfl) (by decide) e_b2 (pb_X7_horsesBy hf hx (G.2.2.2.2.2 (i + 1)) (G.2.2.2.2.2 (i + 2)) (G.2.2.2.2.2 (i + 3)) (G.2.2.2.2.2 (i + 4))) ?_
  rintro v1 S1 μ1 ⟨rfl, rfl, hx1, hk1⟩ - - -
  have hm1 := hm.keptM hf hk1
  refine ev_aload_n dL_law_1550 2 rfl (by decide) ?_
  refine ev_sarg (j := 1) dL_law_1551 dL_law_1552 dL_law_1553 rfl dL_law_1554 dL_law_1555 (by omega) hL ?_
  refine ev_sarg (j := 2) dL_law_1556 dL_law_1557 dL_law_1558 rfl dL_law_1559 dL_law_1560 (by omega) hL ?_
  refine ev_sarg (j := 3) dL_law_1561 dL_law_1562 dL_law_1563 rfl dL_law_1564 dL_law_1565 (by omega) hL ?_
  refine ev_sarg (j := 4) dL_law_1566 dL_law_1567 dL_law_1568 rfl dL_law_1569 dL_law_1570 (by omega) hL ?_
  refine ev_callV (a := 82) (as := [.int (G.2.2.2.2.2 (i + 1)), .int (G.2.2.2.2.2 (i + 2)), .int (G.2.2.2.2.2 (i + 3)), .int (G.2.2.2.2.2 (i + 4))]) (st := [_]) ok_X8_horsesBy vi_X8_horsesBy ml_L_177 hcl_8 kd_82 dL_law_1571 rfl rfl (Nat.le_of_ble_eq_true rfl) (Nat.le_of_ble_eq_true rfl) (by decide) e_b2 (pb_X8_horsesBy hf hm1 (G.2.2.2.2.2 (i + 1)) (G.2.2.2.2.2 (i + 2)) (G.2.2.2.2.2 (i + 3)) (G.2.2.2.2.2 (i + 4))) ?_
  rintro v2 S2 μ2 ⟨rfl, rfl, hm2, hk2⟩ - - -
  have hw := (wf_horsesBy hf (G.2.2.2.2.2 (i + 1)) (G.2.2.2.2.2 (i + 2)) (G.2.2.2.2.2 (i + 3)) (G.2.2.2.2.2 (i + 4)))
  have hx2 := hx1.keptX hw hk2
  exact ev_icmp_eq (tgt := 1612) dL_law_1574 rfl (fun _ => kk _ _ hw hx2 hm2) (fun c => absurd rfl c)
theorem law_c39 {G : GW} {K : Option Value → Mem → Prop} {α μ : Mem} {i : Nat} (hL : G.2.2.2.2.1 ≤ 3584) (hi : i + 7 ≤ G.2.2.2.2.1) (hf : WF α) (hx : VX α μ) (hm : VM α μ) (kk : lawK G i K) : Ev2 G mL_law 80 1579 (lvL i) [] μ K := by
  refine ev_aload_n dL_law_1579 1 rfl (by decide) ?_
  refine ev_sarg (j := 1) dL_law_1580 dL_law_1581 dL_law_1582 rfl dL_law_1583 dL_law_1584 (by omega) hL ?_
  refine ev_sarg (j := 2) dL_law_1585 dL_law_1586 dL_law_1587 rfl dL_law_1588 dL_law_1589 (by omega) hL ?_
  refine ev_callV (a := 10) (as := [.int (G.2.2.2.2.2 (i + 1)), .int (G.2.2.2.2.2 (i + 2))]) (st := []) ok_X7_taken vi_X7_taken ml_L_178 hcl_7 kd_10 dL_law_1590 rfl rfl (Nat.le_of_ble_eq_true rfl) (Nat.le_of_ble_eq_true rfl) (by decide) e_b2 (pb_X7_taken hf hx (G.2.2.2.2.2 (i + 1)) (G.2.2.2.2.2 (i + 2))) ?_
  rintro v1 S1 μ1 ⟨rfl, rfl, hx1, hk1⟩ - - -
  have hm1 := hm.keptM hf hk1
  refine ev_aload_n dL_law_1593 2 rfl (by decide) ?_
  refine ev_sarg (j := 1) dL_law_1594 dL_law_1595 dL_law_1596 rfl dL_law_1597 dL_law_1598 (by omega) hL ?_
  refine ev_sarg (j := 2) dL_law_1599 dL_law_1600 dL_law_1601 rfl dL_law_1602 dL_law_1603 (by omega) hL ?_
  refine ev_callV (a := 82) (as := [.int (G.2.2.2.2.2 (i + 1)), .int (G.2.2.2.2.2 (i + 2))]) (st := [_]) ok_X8_taken vi_X8_taken ml_L_181 hcl_8 kd_82 dL_law_1604 rfl rfl (Nat.le_of_ble_eq_true rfl) (Nat.le_of_ble_eq_true rfl) (by decide) e_b2 (pb_X8_taken hf hm1 (G.2.2.2.2.2 (i + 1)) (G.2.2.2.2.2 (i + 2))) ?_
  rintro v2 S2 μ2 ⟨rfl, rfl, hm2, hk2⟩ - - -
  have hw := hf
  have hx2 := hx1.keptX hw hk2
  exact ev_icmp_eq (tgt := 1612) dL_law_1607 rfl (fun _ => kk _ _ hw hx2 hm2) (fun c => absurd rfl c)
theorem law_step {G : GW} {K : Option Value → Mem → Prop} {α μ : Mem} {i : Nat} (hL : G.2.2.2.2.1 ≤ 3584) (hi : i + 7 ≤ G.2.2.2.2.1) (hf : WF α) (hx : VX α μ) (hm : VM α μ) (kk : lawK G i K) : Ev2 G mL_law 80 27 (lvL i) [] μ K := by
  refine ev_aload_n dL_law_27 0 rfl (by decide) ?_
  refine ev_iload_n dL_law_28 3 rfl ?_
  refine ev_sload (vp_nI (by omega) (by omega)) dL_law_29 ?_
  refine ev_bipush (v := 63) dL_law_30 rfl ?_
  refine ev_iand dL_law_32 ?_
  obtain ⟨j, hj, ej⟩ := pk_andE (G.2.2.2.2.2 (nI i).toNatClampNeg) (m := 63) 6 rfl
  rw [ej]
  rcases Nat.lt_or_ge j 40 with h40 | h40
  · rcases (show j = 0 ∨ j = 1 ∨ j = 2 ∨ j = 3 ∨ j = 4 ∨ j = 5 ∨ j = 6 ∨ j = 7 ∨ j = 8 ∨ j = 9 ∨ j = 10 ∨ j = 11 ∨ j = 12 ∨ j = 13 ∨ j = 14 ∨ j = 15 ∨ j = 16 ∨ j = 17 ∨ j = 18 ∨ j = 19 ∨ j = 20 ∨ j = 21 ∨ j = 22 ∨ j = 23 ∨ j = 24 ∨ j = 25 ∨ j = 26 ∨ j = 27 ∨ j = 28 ∨ j = 29 ∨ j = 30 ∨ j = 31 ∨ j = 32 ∨ j = 33 ∨ j = 34 ∨ j = 35 ∨ j = 36 ∨ j = 37 ∨ j = 38 ∨ j = 39 by omega) with rfl | rfl | rfl | rfl | rfl | rfl | rfl | rfl | rfl | rfl | rfl | rfl | rfl | rfl | rfl | rfl | rfl | rfl | rfl | rfl | rfl | rfl | rfl | rfl | rfl | rfl | rfl | rfl | rfl | rfl | rfl | rfl | rfl | rfl | rfl | rfl | rfl | rfl | rfl | rfl
    · exact ev_tabIn (off := 175) (tgt := 208) 0 dL_law_33 rfl (by decide +kernel) (law_c0 hL hi hf hx hm kk)
    · exact ev_tabIn (off := 218) (tgt := 251) 1 dL_law_33 rfl (by decide +kernel) (law_c1 hL hi hf hx hm kk)
    · exact ev_tabIn (off := 251) (tgt := 284) 2 dL_law_33 rfl (by decide +kernel) (law_c2 hL hi hf hx hm kk)
    · exact ev_tabIn (off := 284) (tgt := 317) 3 dL_law_33 rfl (by decide +kernel) (law_c3 hL hi hf hx hm kk)
    · exact ev_tabIn (off := 317) (tgt := 350) 4 dL_law_33 rfl (by decide +kernel) (law_c4 hL hi hf hx hm kk)
    · exact ev_tabIn (off := 340) (tgt := 373) 5 dL_law_33 rfl (by decide +kernel) (law_c5 hL hi hf hx hm kk)
    · exact ev_tabIn (off := 415) (tgt := 448) 6 dL_law_33 rfl (by decide +kernel) (law_c6 hL hi hf hx hm kk)
    · exact ev_tabIn (off := 428) (tgt := 461) 7 dL_law_33 rfl (by decide +kernel) (law_c7 hL hi hf hx hm kk)
    · exact ev_tabIn (off := 451) (tgt := 484) 8 dL_law_33 rfl (by decide +kernel) (law_c8 hL hi hf hx hm kk)
    · exact ev_tabIn (off := 484) (tgt := 517) 9 dL_law_33 rfl (by decide +kernel) (law_c9 hL hi hf hx hm kk)
    · exact ev_tabIn (off := 537) (tgt := 570) 10 dL_law_33 rfl (by decide +kernel) (law_c10 hL hi hf hx hm kk)
    · exact ev_tabIn (off := 570) (tgt := 603) 11 dL_law_33 rfl (by decide +kernel) (law_c11 hL hi hf hx hm kk)
    · exact ev_tabIn (off := 603) (tgt := 636) 12 dL_law_33 rfl (by decide +kernel) (law_c12 hL hi hf hx hm kk)
    · exact ev_tabIn (off := 636) (tgt := 669) 13 dL_law_33 rfl (by decide +kernel) (law_c13 hL hi hf hx hm kk)
    · exact ev_tabIn (off := 659) (tgt := 692) 14 dL_law_33 rfl (by decide +kernel) (law_c14 hL hi hf hx hm kk)
    · exact ev_tabIn (off := 702) (tgt := 735) 15 dL_law_33 rfl (by decide +kernel) (law_c15 hL hi hf hx hm kk)
    · exact ev_tabIn (off := 745) (tgt := 778) 16 dL_law_33 rfl (by decide +kernel) (law_c16 hL hi hf hx hm kk)
    · exact ev_tabIn (off := 788) (tgt := 821) 17 dL_law_33 rfl (by decide +kernel) (law_c17 hL hi hf hx hm kk)
    · exact ev_tabIn (off := 801) (tgt := 834) 18 dL_law_33 rfl (by decide +kernel) (law_c18 hL hi hf hx hm kk)
    · exact ev_tabIn (off := 824) (tgt := 857) 19 dL_law_33 rfl (by decide +kernel) (law_c19 hL hi hf hx hm kk)
    · exact ev_tabIn (off := 847) (tgt := 880) 20 dL_law_33 rfl (by decide +kernel) (law_c20 hL hi hf hx hm kk)
    · exact ev_tabIn (off := 880) (tgt := 913) 21 dL_law_33 rfl (by decide +kernel) (law_c21 hL hi hf hx hm kk)
    · exact ev_tabIn (off := 923) (tgt := 956) 22 dL_law_33 rfl (by decide +kernel) (law_c22 hL hi hf hx hm kk)
    · exact ev_tabIn (off := 967) (tgt := 1000) 23 dL_law_33 rfl (by decide +kernel) (law_c23 hL hi hf hx hm kk)
    · exact ev_tabIn (off := 1010) (tgt := 1043) 24 dL_law_33 rfl (by decide +kernel) (law_c24 hL hi hf hx hm kk)
    · exact ev_tabIn (off := 1043) (tgt := 1076) 25 dL_law_33 rfl (by decide +kernel) (law_c25 hL hi hf hx hm kk)
    · exact ev_tabIn (off := 1066) (tgt := 1099) 26 dL_law_33 rfl (by decide +kernel) (law_c26 hL hi hf hx hm kk)
    · exact ev_tabIn (off := 1109) (tgt := 1142) 27 dL_law_33 rfl (by decide +kernel) (law_c27 hL hi hf hx hm kk)
    · exact ev_tabIn (off := 1142) (tgt := 1175) 28 dL_law_33 rfl (by decide +kernel) (law_c28 hL hi hf hx hm kk)
    · exact ev_tabIn (off := 1165) (tgt := 1198) 29 dL_law_33 rfl (by decide +kernel) (law_c29 hL hi hf hx hm kk)
    · exact ev_tabIn (off := 1198) (tgt := 1231) 30 dL_law_33 rfl (by decide +kernel) (law_c30 hL hi hf hx hm kk)
    · exact ev_tabIn (off := 1231) (tgt := 1264) 31 dL_law_33 rfl (by decide +kernel) (law_c31 hL hi hf hx hm kk)
    · exact ev_tabIn (off := 1254) (tgt := 1287) 32 dL_law_33 rfl (by decide +kernel) (law_c32 hL hi hf hx hm kk)
    · exact ev_tabIn (off := 1318) (tgt := 1351) 33 dL_law_33 rfl (by decide +kernel) (law_c33 hL hi hf hx hm kk)
    · exact ev_tabIn (off := 1331) (tgt := 1364) 34 dL_law_33 rfl (by decide +kernel) (law_c34 hL hi hf hx hm kk)
    · exact ev_tabIn (off := 1344) (tgt := 1377) 35 dL_law_33 rfl (by decide +kernel) (law_c35 hL hi hf hx hm kk)
    · exact ev_tabIn (off := 1387) (tgt := 1420) 36 dL_law_33 rfl (by decide +kernel) (law_c36 hL hi hf hx hm kk)
    · exact ev_tabIn (off := 1430) (tgt := 1463) 37 dL_law_33 rfl (by decide +kernel) (law_c37 hL hi hf hx hm kk)
    · exact ev_tabIn (off := 1493) (tgt := 1526) 38 dL_law_33 rfl (by decide +kernel) (law_c38 hL hi hf hx hm kk)
    · exact ev_tabIn (off := 1546) (tgt := 1579) 39 dL_law_33 rfl (by decide +kernel) (law_c39 hL hi hf hx hm kk)
  · exact ev_tabOut (tgt := 1612) dL_law_33 (Or.inr (by rw [nI_toInt (by omega)]; omega)) rfl (kk _ _ hf hx hm)
theorem law_loop {G : GW} (hL : G.2.2.2.2.1 ≤ 3584) : ∀ (f i : Nat) (α μ : Mem), G.2.2.2.2.1 ≤ i + f → i ≤ 3600 → WF α → VX α μ → VM α μ → Ev2 G mL_law 80 18 (lvL i) [] μ (fun v _ => v = some (.int 1)) := by
  intro f
  induction f with
  | zero =>
    intro i α μ h1 h2 hf hx hm
    refine ev_iload_n dL_law_18 3 rfl ?_
    refine ev_aload_n dL_law_19 0 rfl (by decide) ?_
    refine ev_slen dL_law_20 (fun L eL => ?_)
    refine ev_bipush (v := nI 7) dL_law_21 rfl ?_
    refine ev_isub dL_law_23 ?_
    refine ev_icmp_gt (tgt := 1618) dL_law_24 rfl (fun _ => ?_) (fun c => absurd (i_lt.mpr (by rw [pk_sub_toInt (by omega) (by omega), nI_toInt (by omega)]; omega)) c)
    refine ev_iconst (v := 1) dL_law_1618 rfl ?_
    exact ev_ireturn dL_law_1619 rfl rfl rfl rfl ⟨rfl, rfl⟩
  | succ f ih =>
    intro i α μ h1 h2 hf hx hm
    refine ev_iload_n dL_law_18 3 rfl ?_
    refine ev_aload_n dL_law_19 0 rfl (by decide) ?_
    refine ev_slen dL_law_20 (fun L eL => ?_)
    refine ev_bipush (v := nI 7) dL_law_21 rfl ?_
    refine ev_isub dL_law_23 ?_
    refine ev_icmp_gt (tgt := 1618) dL_law_24 rfl (fun _ => ?_) (fun c => ?_)
    · refine ev_iconst (v := 1) dL_law_1618 rfl ?_
      exact ev_ireturn dL_law_1619 rfl rfl rfl rfl ⟨rfl, rfl⟩
    · have hi : i + 7 ≤ G.2.2.2.2.1 := by
        rw [i_lt, pk_sub_toInt (by omega) (by omega), nI_toInt (by omega)] at c
        omega
      refine law_step hL hi hf hx hm (fun β ν wf vx vm => ?_)
      refine ev_iinc (v := nI (i + 7)) (lv' := lvL (i + 7)) dL_law_1612 3 rfl (nI_add i 7) (by decide) [1, 2, 3, 0] rfl ?_
      refine ev_goto (tgt := 18) dL_law_1615 rfl ?_
      exact ih (i + 7) β ν (by omega) (by omega) wf vx vm
theorem law_all {G : GW} (hL : G.2.2.2.2.1 ≤ 3584) : EvW G mL_law 80 113 5779 0 [(0, .ref 1)] [] (SL 0 [] []) (ML []) (fun v S' _ => S' = S0 ∧ v = some (.int 1)) := by
  refine mk_new (ci := 7) (nf := 13) (n := 10) (n' := 11) ⟨by decide +kernel, by decide +kernel, by decide +kernel⟩ rfl rfl kl_L_7 dv_7 dL_law_0 rfl (by decide) (by decide) (fun _ => ?_)
  refine ev_dup dL_law_3 rfl ?_
  refine mk_callI (k := 16) (N' := 82) (Z' := 1851) ok_X7_init ⟨rfl, rfl⟩ vi_X7_init ml_L_9 (by decide +kernel) dL_law_4 (Nat.le_of_ble_eq_true rfl) (by decide) (by decide) ct_X7_init ⟨⟨by decide +kernel, by decide⟩, by decide, by decide⟩ ?_
  refine ev_astore_n (lv' := [(0, .ref 1), (1, .ref 10)]) dL_law_7 (by decide) (by decide) [1, 0] rfl ?_
  refine mk_new (ci := 8) (nf := 49) (n := 82) (n' := 83) ⟨by decide +kernel, by decide +kernel, by decide +kernel⟩ rfl rfl kl_L_10 dv_8 dL_law_8 rfl (by decide) (by decide) (fun _ => ?_)
  refine ev_dup dL_law_11 rfl ?_
  refine mk_callI (k := 17) (N' := 113) (Z' := 5779) ok_X8_init ⟨rfl, rfl⟩ vi_X8_init ml_L_12 (by decide +kernel) dL_law_12 (Nat.le_of_ble_eq_true rfl) (by decide) (by decide) ct_X8_init ⟨⟨by decide +kernel, by decide⟩, by decide, by decide⟩ ?_
  refine ev_astore_n (lv' := [(0, .ref 1), (1, .ref 10), (2, .ref 82)]) dL_law_15 (by decide) (by decide) [1, 2, 0] rfl ?_
  refine ev_iconst (v := nI 0) dL_law_16 rfl ?_
  refine ev_istore_n (lv' := lvL 0) dL_law_17 (by decide) [1, 2, 3, 0] rfl ?_
  refine ev_st S0_SL rfl ?_
  exact law_loop hL G.2.2.2.2.1 0 al0 (ML mEF) (by omega) (by omega) wf_al0 vx_begin vm_begin
