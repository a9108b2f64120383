/-! the law: one case of its switch each -/
set_option maxRecDepth 100000 in
theorem lw1_poke : Cond.methodLink RL 67 yL_poke ∈ sc_G := sc_inG 239 (by decide +kernel) (by decide +kernel)
set_option maxRecDepth 100000 in
theorem lw2_poke : Cond.static yL_poke ∈ sc_G := sc_inG 240 (by decide +kernel) (by decide +kernel)
set_option maxRecDepth 100000 in
theorem lw3_poke : Cond.codeWith yL_poke cL_poke 5 (some .int) [(0, 10, 13, 13)] ∈ sc_G := sc_inG 241 rfl rfl
set_option maxRecDepth 100000 in
theorem lm0_poke : sc_MO 46 2 := ⟨by decide, ⟨by decide, by decide, by decide +kernel⟩, by decide, sc_inG 561 rfl rfl, sc_inG 4 (by decide +kernel) (by decide +kernel)⟩
set_option maxRecDepth 100000 in
theorem lm1_poke : Cond.methodLink RL 70 (sc_y 46) ∈ sc_G := sc_inG 558 (by decide +kernel) (by decide +kernel)
set_option maxRecDepth 100000 in
theorem lm2_poke : Cond.instanceMethod (sc_y 46) ∈ sc_G := sc_inG 559 (by decide +kernel) (by decide +kernel)
set_option maxRecDepth 100000 in
theorem lm3_poke : Cond.selects RX3 (sc_y 46) (sc_y 46) ∈ sc_G := sc_inG 560 (by decide +kernel) (by decide +kernel)
set_option maxRecDepth 100000 in
set_option maxHeartbeats 4000000 in
theorem lz_poke {p : Program} {l : Launch} {e : Env} {s : State} {m : MethodId} {args : Array Value} {below : List Frame} {meth : Method} {c : Code} {Qf : State → Prop} {dC : Nat → ClassId} {dI : Nat → Nat → Nat} {ad : Nat → Nat} {cA : Nat → ClassId} {A : Nat → Prop} {k : Nat → Nat} {b L : Nat} {xs : Nat → Int32} {H : Heap} {locs : List Loc} {cells slots i : Nat} {ls : Array Slot} {LP : List Nat} {o : Nat → Int64} {I : sc_I} {D : sc_R} {S : sc_I} {N : Nat} (C : lz_C p l s m args c dC dI cA A k b L xs) (hL : L ≤ 3584) (hi : i + 7 ≤ L) (hN : N + 300 < 2 ^ 30) (hI : lz_I dC dI ad cA A s LP o I D S N H locs) (hl : lv_has ls 9 (lz_lv ad b i)) (hc1 : cells + 1 ≤ 636560) (hc2 : slots + 6 ≤ 7186423)
    (kk : ∀ (ls : Array Slot) (LP : List Nat) (o : Nat → Int64) (I : sc_I) (D : sc_R) (S : sc_I) (H : Heap) (locs : List Loc), lv_has ls 9 (lz_lv ad b i) → lz_I dC dI ad cA A s LP o I D S (N + 300) H locs → W p l e room_1 s m args below meth c H locs (cells + 1) (slots + 6) Qf (F0 m 869 ls [])) : W p l e room_1 s m args below meth c H locs cells slots Qf (F0 m 206 ls []) := by
  have C' := C
  obtain ⟨⟨hx, hb, hml, hown, hts⟩, ⟨hKN, hZ, hst⟩, -⟩ := C'
  obtain ⟨hP, hD, hS, hvd, hAB, hR⟩ := hI
  obtain ⟨kr, a, S', hM, hW⟩ := st_poke (k := k) (dC := dC) (dI := dI) hst (sc_D_any hD o) hvd hAB hR hN (xs (i + 1)) (xs (i + 2))
  refine lv_aload_n hx hb dL_law_206 rfl (lv_at hl 3 rfl) ?_
  refine lz_ld C (n := 1) hS (lv_at hl 4 rfl) (lv_at hl 0 rfl) (by omega) hL (by decide) dL_law_207 dL_law_208 dL_law_210 dL_law_211 dL_law_212 ?_
  refine lz_ld C (n := 2) hS (lv_at hl 4 rfl) (lv_at hl 0 rfl) (by omega) hL (by decide) dL_law_213 dL_law_214 dL_law_216 dL_law_217 dL_law_218 ?_
  refine lv_aload_n hx hb dL_law_219 rfl (lv_at hl 1 rfl) ?_
  refine lz_wrap C (as := [.inr (2, 0), .inl (xs (i + 1)), .inl (xs (i + 2)), .inr (8, 0)]) (n := 4) hM rfl (by decide +kernel) rfl (by decide) lw1_poke lw2_poke lw3_poke hP hS hl.1 hc1 hc2 dL_law_220 ?_
  rintro r o1 I1 D1 H1 locs1 ⟨hr, ho, hq⟩ hvd1 hP1 hS1
  subst hr
  refine lv_istore (lv' := (5, .int r) :: lz_lv ad b i) hx hb dL_law_223 hl (by decide) rfl (fun ls hl => ?_)
  refine lv_aload_n hx hb dL_law_225 rfl (lv_at hl 3 rfl) ?_
  refine lz_ld C (n := 1) hS1 (lv_at hl 5 rfl) (lv_at hl 1 rfl) (by omega) hL (by decide) dL_law_226 dL_law_227 dL_law_229 dL_law_230 dL_law_231 ?_
  refine lz_ld C (n := 2) hS1 (lv_at hl 5 rfl) (lv_at hl 1 rfl) (by omega) hL (by decide) dL_law_232 dL_law_233 dL_law_235 dL_law_236 dL_law_237 ?_
  refine lx_callV (as := [.inl (xs (i + 1)), .inl (xs (i + 2))]) (rest := []) (k1 := 3) (i := 0) lz_sub (sc_sound l dC dI ad cA LP o1 A (sc_D_any hD o1) 7 46 _ I1 D1 _ (by decide) (hW I1 D1 hq) (st_ok3 [xs (i + 1), xs (i + 2)]) hvd1) lm0_poke rfl (by decide) rfl rfl lm1_poke lm2_poke lm3_poke hx hb hml hown hts hl.1 hKN (by decide) (by decide) hc1 hc2 (Nat.le_of_ble_eq_true rfl) hP1 hS1 dL_law_238 ?_
  rintro r2 I2 D2 H2 locs2 ⟨⟨b2, rfl, hb2⟩, rfl, h3, hAB2, hR2⟩ hvd2 hP2 hS2
  exact lz_tail C ⟨hP2, sc_D_any hD _ _ _, hS2, hvd2, hAB2, hR2⟩ h3 (fun z => by rw [ho z, hb2 z]) hl hc1 hc2 dL_law_241 dL_law_243 dL_law_244 dL_law_247 dL_law_249 dL_law_254 dL_law_256 dL_law_259 dL_law_260 dL_law_261 dL_law_262 dL_law_264 dL_law_265 dL_law_266 dL_law_271 (by decide) (fun ls H locs hl hI => kk ls _ _ _ _ _ H locs hl hI)
set_option maxRecDepth 100000 in
theorem lw1_peek : Cond.methodLink RL 71 yL_peek ∈ sc_G := sc_inG 246 (by decide +kernel) (by decide +kernel)
set_option maxRecDepth 100000 in
theorem lw2_peek : Cond.static yL_peek ∈ sc_G := sc_inG 247 (by decide +kernel) (by decide +kernel)
set_option maxRecDepth 100000 in
theorem lw3_peek : Cond.codeWith yL_peek cL_peek 4 (some .int) [(0, 9, 12, 13)] ∈ sc_G := sc_inG 248 rfl rfl
set_option maxRecDepth 100000 in
theorem lm0_peek : sc_MO 47 1 := ⟨by decide, ⟨by decide, by decide, by decide +kernel⟩, by decide, sc_inG 565 rfl rfl, sc_inG 4 (by decide +kernel) (by decide +kernel)⟩
set_option maxRecDepth 100000 in
theorem lm1_peek : Cond.methodLink RL 74 (sc_y 47) ∈ sc_G := sc_inG 562 (by decide +kernel) (by decide +kernel)
set_option maxRecDepth 100000 in
theorem lm2_peek : Cond.instanceMethod (sc_y 47) ∈ sc_G := sc_inG 563 (by decide +kernel) (by decide +kernel)
set_option maxRecDepth 100000 in
theorem lm3_peek : Cond.selects RX3 (sc_y 47) (sc_y 47) ∈ sc_G := sc_inG 564 (by decide +kernel) (by decide +kernel)
set_option maxRecDepth 100000 in
set_option maxHeartbeats 4000000 in
theorem lz_peek {p : Program} {l : Launch} {e : Env} {s : State} {m : MethodId} {args : Array Value} {below : List Frame} {meth : Method} {c : Code} {Qf : State → Prop} {dC : Nat → ClassId} {dI : Nat → Nat → Nat} {ad : Nat → Nat} {cA : Nat → ClassId} {A : Nat → Prop} {k : Nat → Nat} {b L : Nat} {xs : Nat → Int32} {H : Heap} {locs : List Loc} {cells slots i : Nat} {ls : Array Slot} {LP : List Nat} {o : Nat → Int64} {I : sc_I} {D : sc_R} {S : sc_I} {N : Nat} (C : lz_C p l s m args c dC dI cA A k b L xs) (hL : L ≤ 3584) (hi : i + 7 ≤ L) (hN : N + 300 < 2 ^ 30) (hI : lz_I dC dI ad cA A s LP o I D S N H locs) (hl : lv_has ls 9 (lz_lv ad b i)) (hc1 : cells + 1 ≤ 636560) (hc2 : slots + 6 ≤ 7186423)
    (kk : ∀ (ls : Array Slot) (LP : List Nat) (o : Nat → Int64) (I : sc_I) (D : sc_R) (S : sc_I) (H : Heap) (locs : List Loc), lv_has ls 9 (lz_lv ad b i) → lz_I dC dI ad cA A s LP o I D S (N + 300) H locs → W p l e room_1 s m args below meth c H locs (cells + 1) (slots + 6) Qf (F0 m 869 ls [])) : W p l e room_1 s m args below meth c H locs cells slots Qf (F0 m 274 ls []) := by
  have C' := C
  obtain ⟨⟨hx, hb, hml, hown, hts⟩, ⟨hKN, hZ, hst⟩, -⟩ := C'
  obtain ⟨hP, hD, hS, hvd, hAB, hR⟩ := hI
  obtain ⟨kr, a, S', hM, hW⟩ := st_peek (k := k) (dC := dC) (dI := dI) hst (sc_D_any hD o) hvd hAB hR hN (xs (i + 1))
  refine lv_aload_n hx hb dL_law_274 rfl (lv_at hl 3 rfl) ?_
  refine lz_ld C (n := 1) hS (lv_at hl 4 rfl) (lv_at hl 0 rfl) (by omega) hL (by decide) dL_law_275 dL_law_276 dL_law_278 dL_law_279 dL_law_280 ?_
  refine lv_aload_n hx hb dL_law_281 rfl (lv_at hl 1 rfl) ?_
  refine lz_wrap C (as := [.inr (2, 0), .inl (xs (i + 1)), .inr (8, 0)]) (n := 3) hM rfl (by decide +kernel) rfl (by decide) lw1_peek lw2_peek lw3_peek hP hS hl.1 hc1 hc2 dL_law_282 ?_
  rintro r o1 I1 D1 H1 locs1 ⟨hr, ho, hq⟩ hvd1 hP1 hS1
  subst hr
  refine lv_istore (lv' := (5, .int r) :: lz_lv ad b i) hx hb dL_law_285 hl (by decide) rfl (fun ls hl => ?_)
  refine lv_aload_n hx hb dL_law_287 rfl (lv_at hl 3 rfl) ?_
  refine lz_ld C (n := 1) hS1 (lv_at hl 5 rfl) (lv_at hl 1 rfl) (by omega) hL (by decide) dL_law_288 dL_law_289 dL_law_291 dL_law_292 dL_law_293 ?_
  refine lx_callV (as := [.inl (xs (i + 1))]) (rest := []) (k1 := 3) (i := 0) lz_sub (sc_sound l dC dI ad cA LP o1 A (sc_D_any hD o1) 7 47 _ I1 D1 _ (by decide) (hW I1 D1 hq) (st_ok3 [xs (i + 1)]) hvd1) lm0_peek rfl (by decide) rfl rfl lm1_peek lm2_peek lm3_peek hx hb hml hown hts hl.1 hKN (by decide) (by decide) hc1 hc2 (Nat.le_of_ble_eq_true rfl) hP1 hS1 dL_law_294 ?_
  rintro r2 I2 D2 H2 locs2 ⟨⟨b2, rfl, hb2⟩, rfl, h3, hAB2, hR2⟩ hvd2 hP2 hS2
  exact lz_tail C ⟨hP2, sc_D_any hD _ _ _, hS2, hvd2, hAB2, hR2⟩ h3 (fun z => by rw [ho z, hb2 z]) hl hc1 hc2 dL_law_297 dL_law_299 dL_law_300 dL_law_303 dL_law_305 dL_law_310 dL_law_312 dL_law_315 dL_law_316 dL_law_317 dL_law_318 dL_law_320 dL_law_321 dL_law_322 dL_law_327 (by decide) (fun ls H locs hl hI => kk ls _ _ _ _ _ H locs hl hI)
set_option maxRecDepth 100000 in
theorem lw1_set : Cond.methodLink RL 75 yL_set ∈ sc_G := sc_inG 253 (by decide +kernel) (by decide +kernel)
set_option maxRecDepth 100000 in
theorem lw2_set : Cond.static yL_set ∈ sc_G := sc_inG 254 (by decide +kernel) (by decide +kernel)
set_option maxRecDepth 100000 in
theorem lw3_set : Cond.codeWith yL_set cL_set 5 (some .int) [(0, 10, 13, 13)] ∈ sc_G := sc_inG 255 rfl rfl
set_option maxRecDepth 100000 in
theorem lm0_set : sc_MO 48 2 := ⟨by decide, ⟨by decide, by decide, by decide +kernel⟩, by decide, sc_inG 569 rfl rfl, sc_inG 4 (by decide +kernel) (by decide +kernel)⟩
set_option maxRecDepth 100000 in
theorem lm1_set : Cond.methodLink RL 77 (sc_y 48) ∈ sc_G := sc_inG 566 (by decide +kernel) (by decide +kernel)
set_option maxRecDepth 100000 in
theorem lm2_set : Cond.instanceMethod (sc_y 48) ∈ sc_G := sc_inG 567 (by decide +kernel) (by decide +kernel)
set_option maxRecDepth 100000 in
theorem lm3_set : Cond.selects RX3 (sc_y 48) (sc_y 48) ∈ sc_G := sc_inG 568 (by decide +kernel) (by decide +kernel)
set_option maxRecDepth 100000 in
set_option maxHeartbeats 4000000 in
theorem lz_set {p : Program} {l : Launch} {e : Env} {s : State} {m : MethodId} {args : Array Value} {below : List Frame} {meth : Method} {c : Code} {Qf : State → Prop} {dC : Nat → ClassId} {dI : Nat → Nat → Nat} {ad : Nat → Nat} {cA : Nat → ClassId} {A : Nat → Prop} {k : Nat → Nat} {b L : Nat} {xs : Nat → Int32} {H : Heap} {locs : List Loc} {cells slots i : Nat} {ls : Array Slot} {LP : List Nat} {o : Nat → Int64} {I : sc_I} {D : sc_R} {S : sc_I} {N : Nat} (C : lz_C p l s m args c dC dI cA A k b L xs) (hL : L ≤ 3584) (hi : i + 7 ≤ L) (hN : N + 300 < 2 ^ 30) (hI : lz_I dC dI ad cA A s LP o I D S N H locs) (hl : lv_has ls 9 (lz_lv ad b i)) (hc1 : cells + 1 ≤ 636560) (hc2 : slots + 6 ≤ 7186423)
    (kk : ∀ (ls : Array Slot) (LP : List Nat) (o : Nat → Int64) (I : sc_I) (D : sc_R) (S : sc_I) (H : Heap) (locs : List Loc), lv_has ls 9 (lz_lv ad b i) → lz_I dC dI ad cA A s LP o I D S (N + 300) H locs → W p l e room_1 s m args below meth c H locs (cells + 1) (slots + 6) Qf (F0 m 869 ls [])) : W p l e room_1 s m args below meth c H locs cells slots Qf (F0 m 330 ls []) := by
  have C' := C
  obtain ⟨⟨hx, hb, hml, hown, hts⟩, ⟨hKN, hZ, hst⟩, -⟩ := C'
  obtain ⟨hP, hD, hS, hvd, hAB, hR⟩ := hI
  obtain ⟨kr, a, S', hM, hW⟩ := st_set (k := k) (dC := dC) (dI := dI) hst (sc_D_any hD o) hvd hAB hR hN (xs (i + 1)) (xs (i + 2))
  refine lv_aload_n hx hb dL_law_330 rfl (lv_at hl 3 rfl) ?_
  refine lz_ld C (n := 1) hS (lv_at hl 4 rfl) (lv_at hl 0 rfl) (by omega) hL (by decide) dL_law_331 dL_law_332 dL_law_334 dL_law_335 dL_law_336 ?_
  refine lz_ld C (n := 2) hS (lv_at hl 4 rfl) (lv_at hl 0 rfl) (by omega) hL (by decide) dL_law_337 dL_law_338 dL_law_340 dL_law_341 dL_law_342 ?_
  refine lv_aload_n hx hb dL_law_343 rfl (lv_at hl 1 rfl) ?_
  refine lz_wrap C (as := [.inr (2, 0), .inl (xs (i + 1)), .inl (xs (i + 2)), .inr (8, 0)]) (n := 4) hM rfl (by decide +kernel) rfl (by decide) lw1_set lw2_set lw3_set hP hS hl.1 hc1 hc2 dL_law_344 ?_
  rintro r o1 I1 D1 H1 locs1 ⟨hr, ho, hq⟩ hvd1 hP1 hS1
  subst hr
  refine lv_istore (lv' := (5, .int r) :: lz_lv ad b i) hx hb dL_law_347 hl (by decide) rfl (fun ls hl => ?_)
  refine lv_aload_n hx hb dL_law_349 rfl (lv_at hl 3 rfl) ?_
  refine lz_ld C (n := 1) hS1 (lv_at hl 5 rfl) (lv_at hl 1 rfl) (by omega) hL (by decide) dL_law_350 dL_law_351 dL_law_353 dL_law_354 dL_law_355 ?_
  refine lz_ld C (n := 2) hS1 (lv_at hl 5 rfl) (lv_at hl 1 rfl) (by omega) hL (by decide) dL_law_356 dL_law_357 dL_law_359 dL_law_360 dL_law_361 ?_
  refine lx_callV (as := [.inl (xs (i + 1)), .inl (xs (i + 2))]) (rest := []) (k1 := 3) (i := 0) lz_sub (sc_sound l dC dI ad cA LP o1 A (sc_D_any hD o1) 7 48 _ I1 D1 _ (by decide) (hW I1 D1 hq) (st_ok3 [xs (i + 1), xs (i + 2)]) hvd1) lm0_set rfl (by decide) rfl rfl lm1_set lm2_set lm3_set hx hb hml hown hts hl.1 hKN (by decide) (by decide) hc1 hc2 (Nat.le_of_ble_eq_true rfl) hP1 hS1 dL_law_362 ?_
  rintro r2 I2 D2 H2 locs2 ⟨⟨b2, rfl, hb2⟩, rfl, h3, hAB2, hR2⟩ hvd2 hP2 hS2
  exact lz_tail C ⟨hP2, sc_D_any hD _ _ _, hS2, hvd2, hAB2, hR2⟩ h3 (fun z => by rw [ho z, hb2 z]) hl hc1 hc2 dL_law_365 dL_law_367 dL_law_368 dL_law_371 dL_law_373 dL_law_378 dL_law_380 dL_law_383 dL_law_384 dL_law_385 dL_law_386 dL_law_388 dL_law_389 dL_law_390 dL_law_395 (by decide) (fun ls H locs hl hI => kk ls _ _ _ _ _ H locs hl hI)
set_option maxRecDepth 100000 in
theorem lw1_register : Cond.methodLink RL 78 yL_register ∈ sc_G := sc_inG 261 (by decide +kernel) (by decide +kernel)
set_option maxRecDepth 100000 in
theorem lw2_register : Cond.static yL_register ∈ sc_G := sc_inG 262 (by decide +kernel) (by decide +kernel)
set_option maxRecDepth 100000 in
theorem lw3_register : Cond.codeWith yL_register cL_register 4 (some .int) [(0, 9, 12, 13)] ∈ sc_G := sc_inG 263 rfl rfl
set_option maxRecDepth 100000 in
theorem lm0_register : sc_MO 49 1 := ⟨by decide, ⟨by decide, by decide, by decide +kernel⟩, by decide, sc_inG 573 rfl rfl, sc_inG 4 (by decide +kernel) (by decide +kernel)⟩
set_option maxRecDepth 100000 in
theorem lm1_register : Cond.methodLink RL 80 (sc_y 49) ∈ sc_G := sc_inG 570 (by decide +kernel) (by decide +kernel)
set_option maxRecDepth 100000 in
theorem lm2_register : Cond.instanceMethod (sc_y 49) ∈ sc_G := sc_inG 571 (by decide +kernel) (by decide +kernel)
set_option maxRecDepth 100000 in
theorem lm3_register : Cond.selects RX3 (sc_y 49) (sc_y 49) ∈ sc_G := sc_inG 572 (by decide +kernel) (by decide +kernel)
set_option maxRecDepth 100000 in
set_option maxHeartbeats 4000000 in
theorem lz_register {p : Program} {l : Launch} {e : Env} {s : State} {m : MethodId} {args : Array Value} {below : List Frame} {meth : Method} {c : Code} {Qf : State → Prop} {dC : Nat → ClassId} {dI : Nat → Nat → Nat} {ad : Nat → Nat} {cA : Nat → ClassId} {A : Nat → Prop} {k : Nat → Nat} {b L : Nat} {xs : Nat → Int32} {H : Heap} {locs : List Loc} {cells slots i : Nat} {ls : Array Slot} {LP : List Nat} {o : Nat → Int64} {I : sc_I} {D : sc_R} {S : sc_I} {N : Nat} (C : lz_C p l s m args c dC dI cA A k b L xs) (hL : L ≤ 3584) (hi : i + 7 ≤ L) (hN : N + 300 < 2 ^ 30) (hI : lz_I dC dI ad cA A s LP o I D S N H locs) (hl : lv_has ls 9 (lz_lv ad b i)) (hc1 : cells + 1 ≤ 636560) (hc2 : slots + 6 ≤ 7186423)
    (kk : ∀ (ls : Array Slot) (LP : List Nat) (o : Nat → Int64) (I : sc_I) (D : sc_R) (S : sc_I) (H : Heap) (locs : List Loc), lv_has ls 9 (lz_lv ad b i) → lz_I dC dI ad cA A s LP o I D S (N + 300) H locs → W p l e room_1 s m args below meth c H locs (cells + 1) (slots + 6) Qf (F0 m 869 ls [])) : W p l e room_1 s m args below meth c H locs cells slots Qf (F0 m 398 ls []) := by
  have C' := C
  obtain ⟨⟨hx, hb, hml, hown, hts⟩, ⟨hKN, hZ, hst⟩, -⟩ := C'
  obtain ⟨hP, hD, hS, hvd, hAB, hR⟩ := hI
  obtain ⟨kr, a, S', hM, hW⟩ := st_register (k := k) (dC := dC) (dI := dI) hst (sc_D_any hD o) hvd hAB hR hN (xs (i + 1))
  refine lv_aload_n hx hb dL_law_398 rfl (lv_at hl 3 rfl) ?_
  refine lz_ld C (n := 1) hS (lv_at hl 4 rfl) (lv_at hl 0 rfl) (by omega) hL (by decide) dL_law_399 dL_law_400 dL_law_402 dL_law_403 dL_law_404 ?_
  refine lv_aload_n hx hb dL_law_405 rfl (lv_at hl 1 rfl) ?_
  refine lz_wrap C (as := [.inr (2, 0), .inl (xs (i + 1)), .inr (8, 0)]) (n := 3) hM rfl (by decide +kernel) rfl (by decide) lw1_register lw2_register lw3_register hP hS hl.1 hc1 hc2 dL_law_406 ?_
  rintro r o1 I1 D1 H1 locs1 ⟨hr, ho, hq⟩ hvd1 hP1 hS1
  subst hr
  refine lv_istore (lv' := (5, .int r) :: lz_lv ad b i) hx hb dL_law_409 hl (by decide) rfl (fun ls hl => ?_)
  refine lv_aload_n hx hb dL_law_411 rfl (lv_at hl 3 rfl) ?_
  refine lz_ld C (n := 1) hS1 (lv_at hl 5 rfl) (lv_at hl 1 rfl) (by omega) hL (by decide) dL_law_412 dL_law_413 dL_law_415 dL_law_416 dL_law_417 ?_
  refine lx_callV (as := [.inl (xs (i + 1))]) (rest := []) (k1 := 3) (i := 0) lz_sub (sc_sound l dC dI ad cA LP o1 A (sc_D_any hD o1) 7 49 _ I1 D1 _ (by decide) (hW I1 D1 hq) (st_ok3 [xs (i + 1)]) hvd1) lm0_register rfl (by decide) rfl rfl lm1_register lm2_register lm3_register hx hb hml hown hts hl.1 hKN (by decide) (by decide) hc1 hc2 (Nat.le_of_ble_eq_true rfl) hP1 hS1 dL_law_418 ?_
  rintro r2 I2 D2 H2 locs2 ⟨⟨b2, rfl, hb2⟩, rfl, h3, hAB2, hR2⟩ hvd2 hP2 hS2
  exact lz_tail C ⟨hP2, sc_D_any hD _ _ _, hS2, hvd2, hAB2, hR2⟩ h3 (fun z => by rw [ho z, hb2 z]) hl hc1 hc2 dL_law_421 dL_law_423 dL_law_424 dL_law_427 dL_law_429 dL_law_434 dL_law_436 dL_law_439 dL_law_440 dL_law_441 dL_law_442 dL_law_444 dL_law_445 dL_law_446 dL_law_451 (by decide) (fun ls H locs hl hI => kk ls _ _ _ _ _ H locs hl hI)
set_option maxRecDepth 100000 in
theorem lw1_start : Cond.methodLink RL 81 yL_start ∈ sc_G := sc_inG 268 (by decide +kernel) (by decide +kernel)
set_option maxRecDepth 100000 in
theorem lw2_start : Cond.static yL_start ∈ sc_G := sc_inG 269 (by decide +kernel) (by decide +kernel)
set_option maxRecDepth 100000 in
theorem lw3_start : Cond.codeWith yL_start cL_start 3 (some .int) [(0, 5, 8, 13)] ∈ sc_G := sc_inG 270 rfl rfl
set_option maxRecDepth 100000 in
theorem lm0_start : sc_MO 51 1 := ⟨by decide, ⟨by decide, by decide, by decide +kernel⟩, by decide, sc_inG 577 rfl rfl, sc_inG 4 (by decide +kernel) (by decide +kernel)⟩
set_option maxRecDepth 100000 in
theorem lm1_start : Cond.methodLink RL 84 (sc_y 51) ∈ sc_G := sc_inG 574 (by decide +kernel) (by decide +kernel)
set_option maxRecDepth 100000 in
theorem lm2_start : Cond.instanceMethod (sc_y 51) ∈ sc_G := sc_inG 575 (by decide +kernel) (by decide +kernel)
set_option maxRecDepth 100000 in
theorem lm3_start : Cond.selects RX3 (sc_y 51) (sc_y 51) ∈ sc_G := sc_inG 576 (by decide +kernel) (by decide +kernel)
set_option maxRecDepth 100000 in
set_option maxHeartbeats 4000000 in
theorem lz_start {p : Program} {l : Launch} {e : Env} {s : State} {m : MethodId} {args : Array Value} {below : List Frame} {meth : Method} {c : Code} {Qf : State → Prop} {dC : Nat → ClassId} {dI : Nat → Nat → Nat} {ad : Nat → Nat} {cA : Nat → ClassId} {A : Nat → Prop} {k : Nat → Nat} {b L : Nat} {xs : Nat → Int32} {H : Heap} {locs : List Loc} {cells slots i : Nat} {ls : Array Slot} {LP : List Nat} {o : Nat → Int64} {I : sc_I} {D : sc_R} {S : sc_I} {N : Nat} (C : lz_C p l s m args c dC dI cA A k b L xs) (hL : L ≤ 3584) (hi : i + 7 ≤ L) (hN : N + 300 < 2 ^ 30) (hI : lz_I dC dI ad cA A s LP o I D S N H locs) (hl : lv_has ls 9 (lz_lv ad b i)) (hc1 : cells + 1 ≤ 636560) (hc2 : slots + 6 ≤ 7186423)
    (kk : ∀ (ls : Array Slot) (LP : List Nat) (o : Nat → Int64) (I : sc_I) (D : sc_R) (S : sc_I) (H : Heap) (locs : List Loc), lv_has ls 9 (lz_lv ad b i) → lz_I dC dI ad cA A s LP o I D S (N + 300) H locs → W p l e room_1 s m args below meth c H locs (cells + 1) (slots + 6) Qf (F0 m 869 ls [])) : W p l e room_1 s m args below meth c H locs cells slots Qf (F0 m 454 ls []) := by
  have C' := C
  obtain ⟨⟨hx, hb, hml, hown, hts⟩, ⟨hKN, hZ, hst⟩, -⟩ := C'
  obtain ⟨hP, hD, hS, hvd, hAB, hR⟩ := hI
  obtain ⟨kr, S', hM, hW⟩ := st_start (k := k) (dC := dC) (dI := dI) hst (sc_D_any hD o) hvd hAB hR hN (xs (i + 1))
  refine lv_aload_n hx hb dL_law_454 rfl (lv_at hl 3 rfl) ?_
  refine lz_ld C (n := 1) hS (lv_at hl 4 rfl) (lv_at hl 0 rfl) (by omega) hL (by decide) dL_law_455 dL_law_456 dL_law_458 dL_law_459 dL_law_460 ?_
  refine lz_wrap C (as := [.inr (2, 0), .inl (xs (i + 1))]) (n := 2) hM rfl (by decide +kernel) rfl (by decide) lw1_start lw2_start lw3_start hP hS hl.1 hc1 hc2 dL_law_461 ?_
  rintro r o1 I1 D1 H1 locs1 ⟨hr, hq⟩ hvd1 hP1 hS1
  subst hr
  refine lv_istore (lv' := (5, .int r) :: lz_lv ad b i) hx hb dL_law_464 hl (by decide) rfl (fun ls hl => ?_)
  refine lv_aload_n hx hb dL_law_466 rfl (lv_at hl 3 rfl) ?_
  refine lz_ld C (n := 1) hS1 (lv_at hl 5 rfl) (lv_at hl 1 rfl) (by omega) hL (by decide) dL_law_467 dL_law_468 dL_law_470 dL_law_471 dL_law_472 ?_
  refine lx_callV (as := [.inl (xs (i + 1))]) (rest := []) (k1 := 3) (i := 0) lz_sub (sc_sound l dC dI ad cA LP o1 A (sc_D_any hD o1) 7 51 _ I1 D1 _ (by decide) (hW I1 D1 hq) (st_ok3 [xs (i + 1)]) hvd1) lm0_start rfl (by decide) rfl rfl lm1_start lm2_start lm3_start hx hb hml hown hts hl.1 hKN (by decide) (by decide) hc1 hc2 (Nat.le_of_ble_eq_true rfl) hP1 hS1 dL_law_473 ?_
  rintro r2 I2 D2 H2 locs2 ⟨rfl, rfl, h3, hAB2, hR2⟩ hvd2 hP2 hS2
  exact lz_tail0 C ⟨hP2, sc_D_any hD _ _ _, hS2, hvd2, hAB2, hR2⟩ h3 hl hc1 hc2 dL_law_476 dL_law_477 dL_law_480 dL_law_482 dL_law_487 (by decide) (fun ls H locs hl hI => kk ls _ _ _ _ _ H locs hl hI)
set_option maxRecDepth 100000 in
theorem lw1_handler : Cond.methodLink RL 85 yL_handler ∈ sc_G := sc_inG 279 (by decide +kernel) (by decide +kernel)
set_option maxRecDepth 100000 in
theorem lw2_handler : Cond.static yL_handler ∈ sc_G := sc_inG 280 (by decide +kernel) (by decide +kernel)
set_option maxRecDepth 100000 in
theorem lw3_handler : Cond.codeWith yL_handler cL_handler 4 (some .int) [(0, 9, 12, 13)] ∈ sc_G := sc_inG 281 rfl rfl
set_option maxRecDepth 100000 in
theorem lm0_handler : sc_MO 52 1 := ⟨by decide, ⟨by decide, by decide, by decide +kernel⟩, by decide, sc_inG 585 rfl rfl, sc_inG 4 (by decide +kernel) (by decide +kernel)⟩
set_option maxRecDepth 100000 in
theorem lm1_handler : Cond.methodLink RL 87 (sc_y 52) ∈ sc_G := sc_inG 582 (by decide +kernel) (by decide +kernel)
set_option maxRecDepth 100000 in
theorem lm2_handler : Cond.instanceMethod (sc_y 52) ∈ sc_G := sc_inG 583 (by decide +kernel) (by decide +kernel)
set_option maxRecDepth 100000 in
theorem lm3_handler : Cond.selects RX3 (sc_y 52) (sc_y 52) ∈ sc_G := sc_inG 584 (by decide +kernel) (by decide +kernel)
set_option maxRecDepth 100000 in
set_option maxHeartbeats 4000000 in
theorem lz_handler {p : Program} {l : Launch} {e : Env} {s : State} {m : MethodId} {args : Array Value} {below : List Frame} {meth : Method} {c : Code} {Qf : State → Prop} {dC : Nat → ClassId} {dI : Nat → Nat → Nat} {ad : Nat → Nat} {cA : Nat → ClassId} {A : Nat → Prop} {k : Nat → Nat} {b L : Nat} {xs : Nat → Int32} {H : Heap} {locs : List Loc} {cells slots i : Nat} {ls : Array Slot} {LP : List Nat} {o : Nat → Int64} {I : sc_I} {D : sc_R} {S : sc_I} {N : Nat} (C : lz_C p l s m args c dC dI cA A k b L xs) (hL : L ≤ 3584) (hi : i + 7 ≤ L) (hN : N + 300 < 2 ^ 30) (hI : lz_I dC dI ad cA A s LP o I D S N H locs) (hl : lv_has ls 9 (lz_lv ad b i)) (hc1 : cells + 1 ≤ 636560) (hc2 : slots + 6 ≤ 7186423)
    (kk : ∀ (ls : Array Slot) (LP : List Nat) (o : Nat → Int64) (I : sc_I) (D : sc_R) (S : sc_I) (H : Heap) (locs : List Loc), lv_has ls 9 (lz_lv ad b i) → lz_I dC dI ad cA A s LP o I D S (N + 300) H locs → W p l e room_1 s m args below meth c H locs (cells + 1) (slots + 6) Qf (F0 m 869 ls [])) : W p l e room_1 s m args below meth c H locs cells slots Qf (F0 m 490 ls []) := by
  have C' := C
  obtain ⟨⟨hx, hb, hml, hown, hts⟩, ⟨hKN, hZ, hst⟩, -⟩ := C'
  obtain ⟨hP, hD, hS, hvd, hAB, hR⟩ := hI
  obtain ⟨kr, a, S', hM, hW⟩ := st_handler (k := k) (dC := dC) (dI := dI) hst (sc_D_any hD o) hvd hAB hR hN (xs (i + 1))
  refine lv_aload_n hx hb dL_law_490 rfl (lv_at hl 3 rfl) ?_
  refine lz_ld C (n := 1) hS (lv_at hl 4 rfl) (lv_at hl 0 rfl) (by omega) hL (by decide) dL_law_491 dL_law_492 dL_law_494 dL_law_495 dL_law_496 ?_
  refine lv_aload_n hx hb dL_law_497 rfl (lv_at hl 1 rfl) ?_
  refine lz_wrap C (as := [.inr (2, 0), .inl (xs (i + 1)), .inr (8, 0)]) (n := 3) hM rfl (by decide +kernel) rfl (by decide) lw1_handler lw2_handler lw3_handler hP hS hl.1 hc1 hc2 dL_law_498 ?_
  rintro r o1 I1 D1 H1 locs1 ⟨hr, ho, hq⟩ hvd1 hP1 hS1
  subst hr
  refine lv_istore (lv' := (5, .int r) :: lz_lv ad b i) hx hb dL_law_501 hl (by decide) rfl (fun ls hl => ?_)
  refine lv_aload_n hx hb dL_law_503 rfl (lv_at hl 3 rfl) ?_
  refine lz_ld C (n := 1) hS1 (lv_at hl 5 rfl) (lv_at hl 1 rfl) (by omega) hL (by decide) dL_law_504 dL_law_505 dL_law_507 dL_law_508 dL_law_509 ?_
  refine lx_callV (as := [.inl (xs (i + 1))]) (rest := []) (k1 := 3) (i := 0) lz_sub (sc_sound l dC dI ad cA LP o1 A (sc_D_any hD o1) 7 52 _ I1 D1 _ (by decide) (hW I1 D1 hq) (st_ok3 [xs (i + 1)]) hvd1) lm0_handler rfl (by decide) rfl rfl lm1_handler lm2_handler lm3_handler hx hb hml hown hts hl.1 hKN (by decide) (by decide) hc1 hc2 (Nat.le_of_ble_eq_true rfl) hP1 hS1 dL_law_510 ?_
  rintro r2 I2 D2 H2 locs2 ⟨⟨b2, rfl, hb2⟩, rfl, h3, hAB2, hR2⟩ hvd2 hP2 hS2
  exact lz_tail C ⟨hP2, sc_D_any hD _ _ _, hS2, hvd2, hAB2, hR2⟩ h3 (fun z => by rw [ho z, hb2 z]) hl hc1 hc2 dL_law_513 dL_law_515 dL_law_516 dL_law_519 dL_law_521 dL_law_526 dL_law_528 dL_law_531 dL_law_532 dL_law_533 dL_law_534 dL_law_536 dL_law_537 dL_law_538 dL_law_543 (by decide) (fun ls H locs hl hI => kk ls _ _ _ _ _ H locs hl hI)
set_option maxRecDepth 100000 in
theorem lw1_cycles : Cond.methodLink RL 88 yL_cycles ∈ sc_G := sc_inG 286 (by decide +kernel) (by decide +kernel)
set_option maxRecDepth 100000 in
theorem lw2_cycles : Cond.static yL_cycles ∈ sc_G := sc_inG 287 (by decide +kernel) (by decide +kernel)
set_option maxRecDepth 100000 in
theorem lw3_cycles : Cond.codeWith yL_cycles cL_cycles 4 (some .int) [(0, 9, 12, 15)] ∈ sc_G := sc_inG 288 rfl rfl
set_option maxRecDepth 100000 in
theorem lm0_cycles : sc_MO 65 1 := ⟨by decide, ⟨by decide, by decide, by decide +kernel⟩, by decide, sc_inG 589 rfl rfl, sc_inG 4 (by decide +kernel) (by decide +kernel)⟩
set_option maxRecDepth 100000 in
theorem lm1_cycles : Cond.methodLink RL 90 (sc_y 65) ∈ sc_G := sc_inG 586 (by decide +kernel) (by decide +kernel)
set_option maxRecDepth 100000 in
theorem lm2_cycles : Cond.instanceMethod (sc_y 65) ∈ sc_G := sc_inG 587 (by decide +kernel) (by decide +kernel)
set_option maxRecDepth 100000 in
theorem lm3_cycles : Cond.selects RX3 (sc_y 65) (sc_y 65) ∈ sc_G := sc_inG 588 (by decide +kernel) (by decide +kernel)
set_option maxRecDepth 100000 in
set_option maxHeartbeats 4000000 in
theorem lz_cycles {p : Program} {l : Launch} {e : Env} {s : State} {m : MethodId} {args : Array Value} {below : List Frame} {meth : Method} {c : Code} {Qf : State → Prop} {dC : Nat → ClassId} {dI : Nat → Nat → Nat} {ad : Nat → Nat} {cA : Nat → ClassId} {A : Nat → Prop} {k : Nat → Nat} {b L : Nat} {xs : Nat → Int32} {H : Heap} {locs : List Loc} {cells slots i : Nat} {ls : Array Slot} {LP : List Nat} {o : Nat → Int64} {I : sc_I} {D : sc_R} {S : sc_I} {N : Nat} (C : lz_C p l s m args c dC dI cA A k b L xs) (hL : L ≤ 3584) (hi : i + 7 ≤ L) (hN : N + 300 < 2 ^ 30) (hI : lz_I dC dI ad cA A s LP o I D S N H locs) (hl : lv_has ls 9 (lz_lv ad b i)) (hc1 : cells + 1 ≤ 636560) (hc2 : slots + 6 ≤ 7186423)
    (kk : ∀ (ls : Array Slot) (LP : List Nat) (o : Nat → Int64) (I : sc_I) (D : sc_R) (S : sc_I) (H : Heap) (locs : List Loc), lv_has ls 9 (lz_lv ad b i) → lz_I dC dI ad cA A s LP o I D S (N + 300) H locs → W p l e room_1 s m args below meth c H locs (cells + 1) (slots + 6) Qf (F0 m 869 ls [])) : W p l e room_1 s m args below meth c H locs cells slots Qf (F0 m 546 ls []) := by
  have C' := C
  obtain ⟨⟨hx, hb, hml, hown, hts⟩, ⟨hKN, hZ, hst⟩, -⟩ := C'
  obtain ⟨hP, hD, hS, hvd, hAB, hR⟩ := hI
  obtain ⟨kr, a, S', hM, hW⟩ := st_cycles (k := k) (dC := dC) (dI := dI) hst (sc_D_any hD o) hvd hAB hR hN (xs (i + 1))
  refine lv_aload_n hx hb dL_law_546 rfl (lv_at hl 3 rfl) ?_
  refine lz_ld C (n := 1) hS (lv_at hl 4 rfl) (lv_at hl 0 rfl) (by omega) hL (by decide) dL_law_547 dL_law_548 dL_law_550 dL_law_551 dL_law_552 ?_
  refine lv_aload_n hx hb dL_law_553 rfl (lv_at hl 1 rfl) ?_
  refine lz_wrap C (as := [.inr (2, 0), .inl (xs (i + 1)), .inr (8, 0)]) (n := 3) hM rfl (by decide +kernel) rfl (by decide) lw1_cycles lw2_cycles lw3_cycles hP hS hl.1 hc1 hc2 dL_law_554 ?_
  rintro r o1 I1 D1 H1 locs1 ⟨hr, ho, hq⟩ hvd1 hP1 hS1
  subst hr
  refine lv_istore (lv' := (5, .int r) :: lz_lv ad b i) hx hb dL_law_557 hl (by decide) rfl (fun ls hl => ?_)
  refine lv_aload_n hx hb dL_law_559 rfl (lv_at hl 3 rfl) ?_
  refine lz_ld C (n := 1) hS1 (lv_at hl 5 rfl) (lv_at hl 1 rfl) (by omega) hL (by decide) dL_law_560 dL_law_561 dL_law_563 dL_law_564 dL_law_565 ?_
  refine lx_callV (as := [.inl (xs (i + 1))]) (rest := []) (k1 := 3) (i := 0) lz_sub (sc_sound l dC dI ad cA LP o1 A (sc_D_any hD o1) 7 65 _ I1 D1 _ (by decide) (hW I1 D1 hq) (st_ok3 [xs (i + 1)]) hvd1) lm0_cycles rfl (by decide) rfl rfl lm1_cycles lm2_cycles lm3_cycles hx hb hml hown hts hl.1 hKN (by decide) (by decide) hc1 hc2 (Nat.le_of_ble_eq_true rfl) hP1 hS1 dL_law_566 ?_
  rintro r2 I2 D2 H2 locs2 ⟨⟨b2, rfl, hb2⟩, rfl, h3, hAB2, hR2⟩ hvd2 hP2 hS2
  exact lz_tail C ⟨hP2, sc_D_any hD _ _ _, hS2, hvd2, hAB2, hR2⟩ h3 (fun z => by rw [ho z, hb2 z]) hl hc1 hc2 dL_law_569 dL_law_571 dL_law_572 dL_law_575 dL_law_577 dL_law_582 dL_law_584 dL_law_587 dL_law_588 dL_law_589 dL_law_590 dL_law_592 dL_law_593 dL_law_594 dL_law_599 (by decide) (fun ls H locs hl hI => kk ls _ _ _ _ _ H locs hl hI)
set_option maxRecDepth 100000 in
theorem lw1_stage : Cond.methodLink RL 91 yL_stage ∈ sc_G := sc_inG 407 (by decide +kernel) (by decide +kernel)
set_option maxRecDepth 100000 in
theorem lw2_stage : Cond.static yL_stage ∈ sc_G := sc_inG 408 (by decide +kernel) (by decide +kernel)
set_option maxRecDepth 100000 in
theorem lw3_stage : Cond.codeWith yL_stage cL_stage 4 (some .int) [(0, 9, 12, 13)] ∈ sc_G := sc_inG 409 rfl rfl
set_option maxRecDepth 100000 in
theorem lm0_stage : sc_MO 66 1 := ⟨by decide, ⟨by decide, by decide, by decide +kernel⟩, by decide, sc_inG 637 rfl rfl, sc_inG 4 (by decide +kernel) (by decide +kernel)⟩
set_option maxRecDepth 100000 in
theorem lm1_stage : Cond.methodLink RL 93 (sc_y 66) ∈ sc_G := sc_inG 634 (by decide +kernel) (by decide +kernel)
set_option maxRecDepth 100000 in
theorem lm2_stage : Cond.instanceMethod (sc_y 66) ∈ sc_G := sc_inG 635 (by decide +kernel) (by decide +kernel)
set_option maxRecDepth 100000 in
theorem lm3_stage : Cond.selects RX3 (sc_y 66) (sc_y 66) ∈ sc_G := sc_inG 636 (by decide +kernel) (by decide +kernel)
set_option maxRecDepth 100000 in
set_option maxHeartbeats 4000000 in
theorem lz_stage {p : Program} {l : Launch} {e : Env} {s : State} {m : MethodId} {args : Array Value} {below : List Frame} {meth : Method} {c : Code} {Qf : State → Prop} {dC : Nat → ClassId} {dI : Nat → Nat → Nat} {ad : Nat → Nat} {cA : Nat → ClassId} {A : Nat → Prop} {k : Nat → Nat} {b L : Nat} {xs : Nat → Int32} {H : Heap} {locs : List Loc} {cells slots i : Nat} {ls : Array Slot} {LP : List Nat} {o : Nat → Int64} {I : sc_I} {D : sc_R} {S : sc_I} {N : Nat} (C : lz_C p l s m args c dC dI cA A k b L xs) (hL : L ≤ 3584) (hi : i + 7 ≤ L) (hN : N + 300 < 2 ^ 30) (hI : lz_I dC dI ad cA A s LP o I D S N H locs) (hl : lv_has ls 9 (lz_lv ad b i)) (hc1 : cells + 1 ≤ 636560) (hc2 : slots + 6 ≤ 7186423)
    (kk : ∀ (ls : Array Slot) (LP : List Nat) (o : Nat → Int64) (I : sc_I) (D : sc_R) (S : sc_I) (H : Heap) (locs : List Loc), lv_has ls 9 (lz_lv ad b i) → lz_I dC dI ad cA A s LP o I D S (N + 300) H locs → W p l e room_1 s m args below meth c H locs (cells + 1) (slots + 6) Qf (F0 m 869 ls [])) : W p l e room_1 s m args below meth c H locs cells slots Qf (F0 m 602 ls []) := by
  have C' := C
  obtain ⟨⟨hx, hb, hml, hown, hts⟩, ⟨hKN, hZ, hst⟩, -⟩ := C'
  obtain ⟨hP, hD, hS, hvd, hAB, hR⟩ := hI
  obtain ⟨kr, a, S', hM, hW⟩ := st_stage (k := k) (dC := dC) (dI := dI) hst (sc_D_any hD o) hvd hAB hR hN (xs (i + 1))
  refine lv_aload_n hx hb dL_law_602 rfl (lv_at hl 3 rfl) ?_
  refine lz_ld C (n := 1) hS (lv_at hl 4 rfl) (lv_at hl 0 rfl) (by omega) hL (by decide) dL_law_603 dL_law_604 dL_law_606 dL_law_607 dL_law_608 ?_
  refine lv_aload_n hx hb dL_law_609 rfl (lv_at hl 1 rfl) ?_
  refine lz_wrap C (as := [.inr (2, 0), .inl (xs (i + 1)), .inr (8, 0)]) (n := 3) hM rfl (by decide +kernel) rfl (by decide) lw1_stage lw2_stage lw3_stage hP hS hl.1 hc1 hc2 dL_law_610 ?_
  rintro r o1 I1 D1 H1 locs1 ⟨hr, ho, hq⟩ hvd1 hP1 hS1
  subst hr
  refine lv_istore (lv' := (5, .int r) :: lz_lv ad b i) hx hb dL_law_613 hl (by decide) rfl (fun ls hl => ?_)
  refine lv_aload_n hx hb dL_law_615 rfl (lv_at hl 3 rfl) ?_
  refine lz_ld C (n := 1) hS1 (lv_at hl 5 rfl) (lv_at hl 1 rfl) (by omega) hL (by decide) dL_law_616 dL_law_617 dL_law_619 dL_law_620 dL_law_621 ?_
  refine lx_callV (as := [.inl (xs (i + 1))]) (rest := []) (k1 := 3) (i := 0) lz_sub (sc_sound l dC dI ad cA LP o1 A (sc_D_any hD o1) 7 66 _ I1 D1 _ (by decide) (hW I1 D1 hq) (st_ok3 [xs (i + 1)]) hvd1) lm0_stage rfl (by decide) rfl rfl lm1_stage lm2_stage lm3_stage hx hb hml hown hts hl.1 hKN (by decide) (by decide) hc1 hc2 (Nat.le_of_ble_eq_true rfl) hP1 hS1 dL_law_622 ?_
  rintro r2 I2 D2 H2 locs2 ⟨⟨b2, rfl, hb2⟩, rfl, h3, hAB2, hR2⟩ hvd2 hP2 hS2
  exact lz_tail C ⟨hP2, sc_D_any hD _ _ _, hS2, hvd2, hAB2, hR2⟩ h3 (fun z => by rw [ho z, hb2 z]) hl hc1 hc2 dL_law_625 dL_law_627 dL_law_628 dL_law_631 dL_law_633 dL_law_638 dL_law_640 dL_law_643 dL_law_644 dL_law_645 dL_law_646 dL_law_648 dL_law_649 dL_law_650 dL_law_655 (by decide) (fun ls H locs hl hI => kk ls _ _ _ _ _ H locs hl hI)
set_option maxRecDepth 100000 in
theorem lw1_counter : Cond.methodLink RL 94 yL_counter ∈ sc_G := sc_inG 414 (by decide +kernel) (by decide +kernel)
set_option maxRecDepth 100000 in
theorem lw2_counter : Cond.static yL_counter ∈ sc_G := sc_inG 415 (by decide +kernel) (by decide +kernel)
set_option maxRecDepth 100000 in
theorem lw3_counter : Cond.codeWith yL_counter cL_counter 4 (some .int) [(0, 9, 12, 13)] ∈ sc_G := sc_inG 416 rfl rfl
set_option maxRecDepth 100000 in
theorem lm0_counter : sc_MO 67 1 := ⟨by decide, ⟨by decide, by decide, by decide +kernel⟩, by decide, sc_inG 641 rfl rfl, sc_inG 4 (by decide +kernel) (by decide +kernel)⟩
set_option maxRecDepth 100000 in
theorem lm1_counter : Cond.methodLink RL 96 (sc_y 67) ∈ sc_G := sc_inG 638 (by decide +kernel) (by decide +kernel)
set_option maxRecDepth 100000 in
theorem lm2_counter : Cond.instanceMethod (sc_y 67) ∈ sc_G := sc_inG 639 (by decide +kernel) (by decide +kernel)
set_option maxRecDepth 100000 in
theorem lm3_counter : Cond.selects RX3 (sc_y 67) (sc_y 67) ∈ sc_G := sc_inG 640 (by decide +kernel) (by decide +kernel)
set_option maxRecDepth 100000 in
set_option maxHeartbeats 4000000 in
theorem lz_counter {p : Program} {l : Launch} {e : Env} {s : State} {m : MethodId} {args : Array Value} {below : List Frame} {meth : Method} {c : Code} {Qf : State → Prop} {dC : Nat → ClassId} {dI : Nat → Nat → Nat} {ad : Nat → Nat} {cA : Nat → ClassId} {A : Nat → Prop} {k : Nat → Nat} {b L : Nat} {xs : Nat → Int32} {H : Heap} {locs : List Loc} {cells slots i : Nat} {ls : Array Slot} {LP : List Nat} {o : Nat → Int64} {I : sc_I} {D : sc_R} {S : sc_I} {N : Nat} (C : lz_C p l s m args c dC dI cA A k b L xs) (hL : L ≤ 3584) (hi : i + 7 ≤ L) (hN : N + 300 < 2 ^ 30) (hI : lz_I dC dI ad cA A s LP o I D S N H locs) (hl : lv_has ls 9 (lz_lv ad b i)) (hc1 : cells + 1 ≤ 636560) (hc2 : slots + 6 ≤ 7186423)
    (kk : ∀ (ls : Array Slot) (LP : List Nat) (o : Nat → Int64) (I : sc_I) (D : sc_R) (S : sc_I) (H : Heap) (locs : List Loc), lv_has ls 9 (lz_lv ad b i) → lz_I dC dI ad cA A s LP o I D S (N + 300) H locs → W p l e room_1 s m args below meth c H locs (cells + 1) (slots + 6) Qf (F0 m 869 ls [])) : W p l e room_1 s m args below meth c H locs cells slots Qf (F0 m 658 ls []) := by
  have C' := C
  obtain ⟨⟨hx, hb, hml, hown, hts⟩, ⟨hKN, hZ, hst⟩, -⟩ := C'
  obtain ⟨hP, hD, hS, hvd, hAB, hR⟩ := hI
  obtain ⟨kr, a, S', hM, hW⟩ := st_counter (k := k) (dC := dC) (dI := dI) hst (sc_D_any hD o) hvd hAB hR hN (xs (i + 1))
  refine lv_aload_n hx hb dL_law_658 rfl (lv_at hl 3 rfl) ?_
  refine lz_ld C (n := 1) hS (lv_at hl 4 rfl) (lv_at hl 0 rfl) (by omega) hL (by decide) dL_law_659 dL_law_660 dL_law_662 dL_law_663 dL_law_664 ?_
  refine lv_aload_n hx hb dL_law_665 rfl (lv_at hl 1 rfl) ?_
  refine lz_wrap C (as := [.inr (2, 0), .inl (xs (i + 1)), .inr (8, 0)]) (n := 3) hM rfl (by decide +kernel) rfl (by decide) lw1_counter lw2_counter lw3_counter hP hS hl.1 hc1 hc2 dL_law_666 ?_
  rintro r o1 I1 D1 H1 locs1 ⟨hr, ho, hq⟩ hvd1 hP1 hS1
  subst hr
  refine lv_istore (lv' := (5, .int r) :: lz_lv ad b i) hx hb dL_law_669 hl (by decide) rfl (fun ls hl => ?_)
  refine lv_aload_n hx hb dL_law_671 rfl (lv_at hl 3 rfl) ?_
  refine lz_ld C (n := 1) hS1 (lv_at hl 5 rfl) (lv_at hl 1 rfl) (by omega) hL (by decide) dL_law_672 dL_law_673 dL_law_675 dL_law_676 dL_law_677 ?_
  refine lx_callV (as := [.inl (xs (i + 1))]) (rest := []) (k1 := 3) (i := 0) lz_sub (sc_sound l dC dI ad cA LP o1 A (sc_D_any hD o1) 7 67 _ I1 D1 _ (by decide) (hW I1 D1 hq) (st_ok3 [xs (i + 1)]) hvd1) lm0_counter rfl (by decide) rfl rfl lm1_counter lm2_counter lm3_counter hx hb hml hown hts hl.1 hKN (by decide) (by decide) hc1 hc2 (Nat.le_of_ble_eq_true rfl) hP1 hS1 dL_law_678 ?_
  rintro r2 I2 D2 H2 locs2 ⟨⟨b2, rfl, hb2⟩, rfl, h3, hAB2, hR2⟩ hvd2 hP2 hS2
  exact lz_tail C ⟨hP2, sc_D_any hD _ _ _, hS2, hvd2, hAB2, hR2⟩ h3 (fun z => by rw [ho z, hb2 z]) hl hc1 hc2 dL_law_681 dL_law_683 dL_law_684 dL_law_687 dL_law_689 dL_law_694 dL_law_696 dL_law_699 dL_law_700 dL_law_701 dL_law_702 dL_law_704 dL_law_705 dL_law_706 dL_law_711 (by decide) (fun ls H locs hl hI => kk ls _ _ _ _ _ H locs hl hI)
set_option maxRecDepth 100000 in
theorem lw1_retired : Cond.methodLink RL 97 yL_retired ∈ sc_G := sc_inG 421 (by decide +kernel) (by decide +kernel)
set_option maxRecDepth 100000 in
theorem lw2_retired : Cond.static yL_retired ∈ sc_G := sc_inG 422 (by decide +kernel) (by decide +kernel)
set_option maxRecDepth 100000 in
theorem lw3_retired : Cond.codeWith yL_retired cL_retired 4 (some .int) [(0, 9, 12, 13)] ∈ sc_G := sc_inG 423 rfl rfl
set_option maxRecDepth 100000 in
theorem lm0_retired : sc_MO 68 1 := ⟨by decide, ⟨by decide, by decide, by decide +kernel⟩, by decide, sc_inG 645 rfl rfl, sc_inG 4 (by decide +kernel) (by decide +kernel)⟩
set_option maxRecDepth 100000 in
theorem lm1_retired : Cond.methodLink RL 99 (sc_y 68) ∈ sc_G := sc_inG 642 (by decide +kernel) (by decide +kernel)
set_option maxRecDepth 100000 in
theorem lm2_retired : Cond.instanceMethod (sc_y 68) ∈ sc_G := sc_inG 643 (by decide +kernel) (by decide +kernel)
set_option maxRecDepth 100000 in
theorem lm3_retired : Cond.selects RX3 (sc_y 68) (sc_y 68) ∈ sc_G := sc_inG 644 (by decide +kernel) (by decide +kernel)
set_option maxRecDepth 100000 in
set_option maxHeartbeats 4000000 in
theorem lz_retired {p : Program} {l : Launch} {e : Env} {s : State} {m : MethodId} {args : Array Value} {below : List Frame} {meth : Method} {c : Code} {Qf : State → Prop} {dC : Nat → ClassId} {dI : Nat → Nat → Nat} {ad : Nat → Nat} {cA : Nat → ClassId} {A : Nat → Prop} {k : Nat → Nat} {b L : Nat} {xs : Nat → Int32} {H : Heap} {locs : List Loc} {cells slots i : Nat} {ls : Array Slot} {LP : List Nat} {o : Nat → Int64} {I : sc_I} {D : sc_R} {S : sc_I} {N : Nat} (C : lz_C p l s m args c dC dI cA A k b L xs) (hL : L ≤ 3584) (hi : i + 7 ≤ L) (hN : N + 300 < 2 ^ 30) (hI : lz_I dC dI ad cA A s LP o I D S N H locs) (hl : lv_has ls 9 (lz_lv ad b i)) (hc1 : cells + 1 ≤ 636560) (hc2 : slots + 6 ≤ 7186423)
    (kk : ∀ (ls : Array Slot) (LP : List Nat) (o : Nat → Int64) (I : sc_I) (D : sc_R) (S : sc_I) (H : Heap) (locs : List Loc), lv_has ls 9 (lz_lv ad b i) → lz_I dC dI ad cA A s LP o I D S (N + 300) H locs → W p l e room_1 s m args below meth c H locs (cells + 1) (slots + 6) Qf (F0 m 869 ls [])) : W p l e room_1 s m args below meth c H locs cells slots Qf (F0 m 714 ls []) := by
  have C' := C
  obtain ⟨⟨hx, hb, hml, hown, hts⟩, ⟨hKN, hZ, hst⟩, -⟩ := C'
  obtain ⟨hP, hD, hS, hvd, hAB, hR⟩ := hI
  obtain ⟨kr, a, S', hM, hW⟩ := st_retired (k := k) (dC := dC) (dI := dI) hst (sc_D_any hD o) hvd hAB hR hN (xs (i + 1))
  refine lv_aload_n hx hb dL_law_714 rfl (lv_at hl 3 rfl) ?_
  refine lz_ld C (n := 1) hS (lv_at hl 4 rfl) (lv_at hl 0 rfl) (by omega) hL (by decide) dL_law_715 dL_law_716 dL_law_718 dL_law_719 dL_law_720 ?_
  refine lv_aload_n hx hb dL_law_721 rfl (lv_at hl 1 rfl) ?_
  refine lz_wrap C (as := [.inr (2, 0), .inl (xs (i + 1)), .inr (8, 0)]) (n := 3) hM rfl (by decide +kernel) rfl (by decide) lw1_retired lw2_retired lw3_retired hP hS hl.1 hc1 hc2 dL_law_722 ?_
  rintro r o1 I1 D1 H1 locs1 ⟨hr, ho, hq⟩ hvd1 hP1 hS1
  subst hr
  refine lv_istore (lv' := (5, .int r) :: lz_lv ad b i) hx hb dL_law_725 hl (by decide) rfl (fun ls hl => ?_)
  refine lv_aload_n hx hb dL_law_727 rfl (lv_at hl 3 rfl) ?_
  refine lz_ld C (n := 1) hS1 (lv_at hl 5 rfl) (lv_at hl 1 rfl) (by omega) hL (by decide) dL_law_728 dL_law_729 dL_law_731 dL_law_732 dL_law_733 ?_
  refine lx_callV (as := [.inl (xs (i + 1))]) (rest := []) (k1 := 3) (i := 0) lz_sub (sc_sound l dC dI ad cA LP o1 A (sc_D_any hD o1) 7 68 _ I1 D1 _ (by decide) (hW I1 D1 hq) (st_ok3 [xs (i + 1)]) hvd1) lm0_retired rfl (by decide) rfl rfl lm1_retired lm2_retired lm3_retired hx hb hml hown hts hl.1 hKN (by decide) (by decide) hc1 hc2 (Nat.le_of_ble_eq_true rfl) hP1 hS1 dL_law_734 ?_
  rintro r2 I2 D2 H2 locs2 ⟨⟨b2, rfl, hb2⟩, rfl, h3, hAB2, hR2⟩ hvd2 hP2 hS2
  exact lz_tail C ⟨hP2, sc_D_any hD _ _ _, hS2, hvd2, hAB2, hR2⟩ h3 (fun z => by rw [ho z, hb2 z]) hl hc1 hc2 dL_law_737 dL_law_739 dL_law_740 dL_law_743 dL_law_745 dL_law_750 dL_law_752 dL_law_755 dL_law_756 dL_law_757 dL_law_758 dL_law_760 dL_law_761 dL_law_762 dL_law_767 (by decide) (fun ls H locs hl hI => kk ls _ _ _ _ _ H locs hl hI)
set_option maxRecDepth 100000 in
theorem lw1_count : Cond.methodLink RL 100 yL_count ∈ sc_G := sc_inG 428 (by decide +kernel) (by decide +kernel)
set_option maxRecDepth 100000 in
theorem lw2_count : Cond.static yL_count ∈ sc_G := sc_inG 429 (by decide +kernel) (by decide +kernel)
set_option maxRecDepth 100000 in
theorem lw3_count : Cond.codeWith yL_count cL_count 4 (some .int) [(0, 9, 12, 15)] ∈ sc_G := sc_inG 430 rfl rfl
set_option maxRecDepth 100000 in
theorem lm0_count : sc_MO 69 1 := ⟨by decide, ⟨by decide, by decide, by decide +kernel⟩, by decide, sc_inG 649 rfl rfl, sc_inG 4 (by decide +kernel) (by decide +kernel)⟩
set_option maxRecDepth 100000 in
theorem lm1_count : Cond.methodLink RL 102 (sc_y 69) ∈ sc_G := sc_inG 646 (by decide +kernel) (by decide +kernel)
set_option maxRecDepth 100000 in
theorem lm2_count : Cond.instanceMethod (sc_y 69) ∈ sc_G := sc_inG 647 (by decide +kernel) (by decide +kernel)
set_option maxRecDepth 100000 in
theorem lm3_count : Cond.selects RX3 (sc_y 69) (sc_y 69) ∈ sc_G := sc_inG 648 (by decide +kernel) (by decide +kernel)
set_option maxRecDepth 100000 in
set_option maxHeartbeats 4000000 in
theorem lz_count {p : Program} {l : Launch} {e : Env} {s : State} {m : MethodId} {args : Array Value} {below : List Frame} {meth : Method} {c : Code} {Qf : State → Prop} {dC : Nat → ClassId} {dI : Nat → Nat → Nat} {ad : Nat → Nat} {cA : Nat → ClassId} {A : Nat → Prop} {k : Nat → Nat} {b L : Nat} {xs : Nat → Int32} {H : Heap} {locs : List Loc} {cells slots i : Nat} {ls : Array Slot} {LP : List Nat} {o : Nat → Int64} {I : sc_I} {D : sc_R} {S : sc_I} {N : Nat} (C : lz_C p l s m args c dC dI cA A k b L xs) (hL : L ≤ 3584) (hi : i + 7 ≤ L) (hN : N + 300 < 2 ^ 30) (hI : lz_I dC dI ad cA A s LP o I D S N H locs) (hl : lv_has ls 9 (lz_lv ad b i)) (hc1 : cells + 1 ≤ 636560) (hc2 : slots + 6 ≤ 7186423)
    (kk : ∀ (ls : Array Slot) (LP : List Nat) (o : Nat → Int64) (I : sc_I) (D : sc_R) (S : sc_I) (H : Heap) (locs : List Loc), lv_has ls 9 (lz_lv ad b i) → lz_I dC dI ad cA A s LP o I D S (N + 300) H locs → W p l e room_1 s m args below meth c H locs (cells + 1) (slots + 6) Qf (F0 m 869 ls [])) : W p l e room_1 s m args below meth c H locs cells slots Qf (F0 m 770 ls []) := by
  have C' := C
  obtain ⟨⟨hx, hb, hml, hown, hts⟩, ⟨hKN, hZ, hst⟩, -⟩ := C'
  obtain ⟨hP, hD, hS, hvd, hAB, hR⟩ := hI
  obtain ⟨kr, a, S', hM, hW⟩ := st_count (k := k) (dC := dC) (dI := dI) hst (sc_D_any hD o) hvd hAB hR hN (xs (i + 1))
  refine lv_aload_n hx hb dL_law_770 rfl (lv_at hl 3 rfl) ?_
  refine lz_ld C (n := 1) hS (lv_at hl 4 rfl) (lv_at hl 0 rfl) (by omega) hL (by decide) dL_law_771 dL_law_772 dL_law_774 dL_law_775 dL_law_776 ?_
  refine lv_aload_n hx hb dL_law_777 rfl (lv_at hl 1 rfl) ?_
  refine lz_wrap C (as := [.inr (2, 0), .inl (xs (i + 1)), .inr (8, 0)]) (n := 3) hM rfl (by decide +kernel) rfl (by decide) lw1_count lw2_count lw3_count hP hS hl.1 hc1 hc2 dL_law_778 ?_
  rintro r o1 I1 D1 H1 locs1 ⟨hr, ho, hq⟩ hvd1 hP1 hS1
  subst hr
  refine lv_istore (lv' := (5, .int r) :: lz_lv ad b i) hx hb dL_law_781 hl (by decide) rfl (fun ls hl => ?_)
  refine lv_aload_n hx hb dL_law_783 rfl (lv_at hl 3 rfl) ?_
  refine lz_ld C (n := 1) hS1 (lv_at hl 5 rfl) (lv_at hl 1 rfl) (by omega) hL (by decide) dL_law_784 dL_law_785 dL_law_787 dL_law_788 dL_law_789 ?_
  refine lx_callV (as := [.inl (xs (i + 1))]) (rest := []) (k1 := 3) (i := 0) lz_sub (sc_sound l dC dI ad cA LP o1 A (sc_D_any hD o1) 7 69 _ I1 D1 _ (by decide) (hW I1 D1 hq) (st_ok3 [xs (i + 1)]) hvd1) lm0_count rfl (by decide) rfl rfl lm1_count lm2_count lm3_count hx hb hml hown hts hl.1 hKN (by decide) (by decide) hc1 hc2 (Nat.le_of_ble_eq_true rfl) hP1 hS1 dL_law_790 ?_
  rintro r2 I2 D2 H2 locs2 ⟨⟨b2, rfl, hb2⟩, rfl, h3, hAB2, hR2⟩ hvd2 hP2 hS2
  exact lz_tail C ⟨hP2, sc_D_any hD _ _ _, hS2, hvd2, hAB2, hR2⟩ h3 (fun z => by rw [ho z, hb2 z]) hl hc1 hc2 dL_law_793 dL_law_795 dL_law_796 dL_law_799 dL_law_801 dL_law_806 dL_law_808 dL_law_811 dL_law_812 dL_law_813 dL_law_814 dL_law_816 dL_law_817 dL_law_818 dL_law_823 (by decide) (fun ls H locs hl hI => kk ls _ _ _ _ _ H locs hl hI)
