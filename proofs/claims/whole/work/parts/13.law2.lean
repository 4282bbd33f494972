theorem ix_in {x3 c : Int32} {i k sL : Nat} (hx : x3 = nI i) (hi : i + 6 ≤ sL) (hL : sL ≤ 3072) (hc : c = nI k) (hk : k < 6) : inb (x3 + c) sL = true := by
  subst hx
  subst hc
  rw [nI_add]
  simp only [inb, nI_toInt (show i + k < 2 ^ 31 by omega), Bool.and_eq_true, decide_eq_true_eq]
  omega
theorem ix_in0 {x3 : Int32} {i sL : Nat} (hx : x3 = nI i) (hi : i + 6 ≤ sL) (hL : sL ≤ 3072) : inb x3 sL = true := by
  subst hx
  simp only [inb, nI_toInt (show i < 2 ^ 31 by omega), Bool.and_eq_true, decide_eq_true_eq]
  omega
set_option maxRecDepth 100000 in
set_option maxHeartbeats 4000000 in
theorem tl_person {l : Launch} {D E : DT} {X : XT} {Q : State → Prop} {cells slots : Nat} {sb sL : Nat} {sx : Nat → Int32} {S : Mem → Mem → Prop} {x3 : Int32} {i : Nat} (hS : Sim_person S) (hX : CxL l D E X sb sL sx cL_law) (hcell : cells ≤ 600000 ∧ slots ≤ 7302249) (hx : x3 = nI i) (hi : i + 6 ≤ sL) (hL : sL ≤ 3072) (hk : ∀ μ1 ν1, S μ1 ν1 → GL l D E X Q cells slots 1398 [some (.ref sb), some (.ref (D.1 0)), some (.ref (E.1 0)), some (.int x3)] [] μ1 ν1) : ∀ μ ν, S μ ν → GL l D E X Q cells slots 208 [some (.ref sb), some (.ref (D.1 0)), some (.ref (E.1 0)), some (.int x3)] [] μ ν := by
  intro μ ν hs
  obtain ⟨r, μ1, ν1, h1, h2, h3⟩ := hS (sx (ix (x3 + 1))) μ ν hs
  refine gl_aload_n hX dL_law_208 rfl rfl ?_
  refine gl_aload_n hX dL_law_209 rfl rfl ?_
  refine gl_iload_n hX dL_law_210 rfl rfl ?_
  refine gl_iconst hX dL_law_211 k_1 ?_
  refine gl_iadd hX dL_law_212 ?_
  refine gl_sld hX (ix_in hx hi hL (c := 1) (k := 1) (by decide) (by decide)) dL_law_213 ?_
  refine gl_callC hX (c_X8_person _ h1) mv_X8_person wlm_379 kd_true_0 rfl (by decide) (by decide) hcell rfl rfl (Nat.le_of_ble_eq_true rfl) dL_law_214 ?_
  refine gl_aload_n hX dL_law_217 rfl rfl ?_
  refine gl_aload_n hX dL_law_218 rfl rfl ?_
  refine gl_iload_n hX dL_law_219 rfl rfl ?_
  refine gl_iconst hX dL_law_220 k_1 ?_
  refine gl_iadd hX dL_law_221 ?_
  refine gl_sld hX (ix_in hx hi hL (c := 1) (k := 1) (by decide) (by decide)) dL_law_222 ?_
  refine gl_callR hX (c_X9_person _ h2) mv_X9_person wlm_1040 kd_false_0 rfl (by decide) (by decide) hcell rfl rfl (Nat.le_of_ble_eq_true rfl) dL_law_223 ?_
  exact gl_icmp_eq (tgt := 1398) hX dL_law_226 (by decide) (fun _ => hk μ1 ν1 h3) (fun q => absurd rfl q)
set_option maxRecDepth 100000 in
set_option maxHeartbeats 4000000 in
theorem tl_personIs {l : Launch} {D E : DT} {X : XT} {Q : State → Prop} {cells slots : Nat} {sb sL : Nat} {sx : Nat → Int32} {S : Mem → Mem → Prop} {x3 : Int32} {i : Nat} (hS : Sim_personIs S) (hX : CxL l D E X sb sL sx cL_law) (hcell : cells ≤ 600000 ∧ slots ≤ 7302249) (hx : x3 = nI i) (hi : i + 6 ≤ sL) (hL : sL ≤ 3072) (hk : ∀ μ1 ν1, S μ1 ν1 → GL l D E X Q cells slots 1398 [some (.ref sb), some (.ref (D.1 0)), some (.ref (E.1 0)), some (.int x3)] [] μ1 ν1) : ∀ μ ν, S μ ν → GL l D E X Q cells slots 231 [some (.ref sb), some (.ref (D.1 0)), some (.ref (E.1 0)), some (.int x3)] [] μ ν := by
  intro μ ν hs
  obtain ⟨r, μ1, ν1, h1, h2, h3⟩ := hS (sx (ix (x3 + 1))) (sx (ix (x3 + 2))) μ ν hs
  refine gl_aload_n hX dL_law_231 rfl rfl ?_
  refine gl_aload_n hX dL_law_232 rfl rfl ?_
  refine gl_iload_n hX dL_law_233 rfl rfl ?_
  refine gl_iconst hX dL_law_234 k_1 ?_
  refine gl_iadd hX dL_law_235 ?_
  refine gl_sld hX (ix_in hx hi hL (c := 1) (k := 1) (by decide) (by decide)) dL_law_236 ?_
  refine gl_aload_n hX dL_law_237 rfl rfl ?_
  refine gl_iload_n hX dL_law_238 rfl rfl ?_
  refine gl_iconst hX dL_law_239 k_2 ?_
  refine gl_iadd hX dL_law_240 ?_
  refine gl_sld hX (ix_in hx hi hL (c := 2) (k := 2) (by decide) (by decide)) dL_law_241 ?_
  refine gl_callC hX (c_X8_personIs _ _ h1) mv_X8_personIs wlm_395 kd_true_0 rfl (by decide) (by decide) hcell rfl rfl (Nat.le_of_ble_eq_true rfl) dL_law_242 ?_
  refine gl_aload_n hX dL_law_245 rfl rfl ?_
  refine gl_aload_n hX dL_law_246 rfl rfl ?_
  refine gl_iload_n hX dL_law_247 rfl rfl ?_
  refine gl_iconst hX dL_law_248 k_1 ?_
  refine gl_iadd hX dL_law_249 ?_
  refine gl_sld hX (ix_in hx hi hL (c := 1) (k := 1) (by decide) (by decide)) dL_law_250 ?_
  refine gl_aload_n hX dL_law_251 rfl rfl ?_
  refine gl_iload_n hX dL_law_252 rfl rfl ?_
  refine gl_iconst hX dL_law_253 k_2 ?_
  refine gl_iadd hX dL_law_254 ?_
  refine gl_sld hX (ix_in hx hi hL (c := 2) (k := 2) (by decide) (by decide)) dL_law_255 ?_
  refine gl_callR hX (c_X9_personIs _ _ h2) mv_X9_personIs wlm_1057 kd_false_0 rfl (by decide) (by decide) hcell rfl rfl (Nat.le_of_ble_eq_true rfl) dL_law_256 ?_
  exact gl_icmp_eq (tgt := 1398) hX dL_law_259 (by decide) (fun _ => hk μ1 ν1 h3) (fun q => absurd rfl q)
set_option maxRecDepth 100000 in
set_option maxHeartbeats 4000000 in
theorem tl_become {l : Launch} {D E : DT} {X : XT} {Q : State → Prop} {cells slots : Nat} {sb sL : Nat} {sx : Nat → Int32} {S : Mem → Mem → Prop} {x3 : Int32} {i : Nat} (hS : Sim_become S) (hX : CxL l D E X sb sL sx cL_law) (hcell : cells ≤ 600000 ∧ slots ≤ 7302249) (hx : x3 = nI i) (hi : i + 6 ≤ sL) (hL : sL ≤ 3072) (hk : ∀ μ1 ν1, S μ1 ν1 → GL l D E X Q cells slots 1398 [some (.ref sb), some (.ref (D.1 0)), some (.ref (E.1 0)), some (.int x3)] [] μ1 ν1) : ∀ μ ν, S μ ν → GL l D E X Q cells slots 264 [some (.ref sb), some (.ref (D.1 0)), some (.ref (E.1 0)), some (.int x3)] [] μ ν := by
  intro μ ν hs
  obtain ⟨r, μ1, ν1, h1, h2, h3⟩ := hS (sx (ix (x3 + 1))) (sx (ix (x3 + 2))) μ ν hs
  refine gl_aload_n hX dL_law_264 rfl rfl ?_
  refine gl_aload_n hX dL_law_265 rfl rfl ?_
  refine gl_iload_n hX dL_law_266 rfl rfl ?_
  refine gl_iconst hX dL_law_267 k_1 ?_
  refine gl_iadd hX dL_law_268 ?_
  refine gl_sld hX (ix_in hx hi hL (c := 1) (k := 1) (by decide) (by decide)) dL_law_269 ?_
  refine gl_aload_n hX dL_law_270 rfl rfl ?_
  refine gl_iload_n hX dL_law_271 rfl rfl ?_
  refine gl_iconst hX dL_law_272 k_2 ?_
  refine gl_iadd hX dL_law_273 ?_
  refine gl_sld hX (ix_in hx hi hL (c := 2) (k := 2) (by decide) (by decide)) dL_law_274 ?_
  refine gl_callC hX (c_X8_become _ _ h1) mv_X8_become wlm_453 kd_true_0 rfl (by decide) (by decide) hcell rfl rfl (Nat.le_of_ble_eq_true rfl) dL_law_275 ?_
  refine gl_aload_n hX dL_law_278 rfl rfl ?_
  refine gl_aload_n hX dL_law_279 rfl rfl ?_
  refine gl_iload_n hX dL_law_280 rfl rfl ?_
  refine gl_iconst hX dL_law_281 k_1 ?_
  refine gl_iadd hX dL_law_282 ?_
  refine gl_sld hX (ix_in hx hi hL (c := 1) (k := 1) (by decide) (by decide)) dL_law_283 ?_
  refine gl_aload_n hX dL_law_284 rfl rfl ?_
  refine gl_iload_n hX dL_law_285 rfl rfl ?_
  refine gl_iconst hX dL_law_286 k_2 ?_
  refine gl_iadd hX dL_law_287 ?_
  refine gl_sld hX (ix_in hx hi hL (c := 2) (k := 2) (by decide) (by decide)) dL_law_288 ?_
  refine gl_callR hX (c_X9_become _ _ h2) mv_X9_become wlm_1111 kd_false_0 rfl (by decide) (by decide) hcell rfl rfl (Nat.le_of_ble_eq_true rfl) dL_law_289 ?_
  exact gl_icmp_eq (tgt := 1398) hX dL_law_292 (by decide) (fun _ => hk μ1 ν1 h3) (fun q => absurd rfl q)
set_option maxRecDepth 100000 in
set_option maxHeartbeats 4000000 in
theorem tl_as {l : Launch} {D E : DT} {X : XT} {Q : State → Prop} {cells slots : Nat} {sb sL : Nat} {sx : Nat → Int32} {S : Mem → Mem → Prop} {x3 : Int32} {i : Nat} (hS : Sim_as S) (hX : CxL l D E X sb sL sx cL_law) (hcell : cells ≤ 600000 ∧ slots ≤ 7302249) (hx : x3 = nI i) (hi : i + 6 ≤ sL) (hL : sL ≤ 3072) (hk : ∀ μ1 ν1, S μ1 ν1 → GL l D E X Q cells slots 1398 [some (.ref sb), some (.ref (D.1 0)), some (.ref (E.1 0)), some (.int x3)] [] μ1 ν1) : ∀ μ ν, S μ ν → GL l D E X Q cells slots 297 [some (.ref sb), some (.ref (D.1 0)), some (.ref (E.1 0)), some (.int x3)] [] μ ν := by
  intro μ ν hs
  obtain ⟨r, μ1, ν1, h1, h2, h3⟩ := hS (sx (ix (x3 + 1))) (sx (ix (x3 + 2))) μ ν hs
  refine gl_aload_n hX dL_law_297 rfl rfl ?_
  refine gl_aload_n hX dL_law_298 rfl rfl ?_
  refine gl_iload_n hX dL_law_299 rfl rfl ?_
  refine gl_iconst hX dL_law_300 k_1 ?_
  refine gl_iadd hX dL_law_301 ?_
  refine gl_sld hX (ix_in hx hi hL (c := 1) (k := 1) (by decide) (by decide)) dL_law_302 ?_
  refine gl_aload_n hX dL_law_303 rfl rfl ?_
  refine gl_iload_n hX dL_law_304 rfl rfl ?_
  refine gl_iconst hX dL_law_305 k_2 ?_
  refine gl_iadd hX dL_law_306 ?_
  refine gl_sld hX (ix_in hx hi hL (c := 2) (k := 2) (by decide) (by decide)) dL_law_307 ?_
  refine gl_callC hX (c_X8_as _ _ h1) mv_X8_as wlm_457 kd_true_0 rfl (by decide) (by decide) hcell rfl rfl (Nat.le_of_ble_eq_true rfl) dL_law_308 ?_
  refine gl_aload_n hX dL_law_311 rfl rfl ?_
  refine gl_aload_n hX dL_law_312 rfl rfl ?_
  refine gl_iload_n hX dL_law_313 rfl rfl ?_
  refine gl_iconst hX dL_law_314 k_1 ?_
  refine gl_iadd hX dL_law_315 ?_
  refine gl_sld hX (ix_in hx hi hL (c := 1) (k := 1) (by decide) (by decide)) dL_law_316 ?_
  refine gl_aload_n hX dL_law_317 rfl rfl ?_
  refine gl_iload_n hX dL_law_318 rfl rfl ?_
  refine gl_iconst hX dL_law_319 k_2 ?_
  refine gl_iadd hX dL_law_320 ?_
  refine gl_sld hX (ix_in hx hi hL (c := 2) (k := 2) (by decide) (by decide)) dL_law_321 ?_
  refine gl_callR hX (c_X9_as _ _ h2) mv_X9_as wlm_1119 kd_false_0 rfl (by decide) (by decide) hcell rfl rfl (Nat.le_of_ble_eq_true rfl) dL_law_322 ?_
  exact gl_icmp_eq (tgt := 1398) hX dL_law_325 (by decide) (fun _ => hk μ1 ν1 h3) (fun q => absurd rfl q)
set_option maxRecDepth 100000 in
set_option maxHeartbeats 4000000 in
theorem tl_gate {l : Launch} {D E : DT} {X : XT} {Q : State → Prop} {cells slots : Nat} {sb sL : Nat} {sx : Nat → Int32} {S : Mem → Mem → Prop} {x3 : Int32} {i : Nat} (hS : Sim_gate S) (hX : CxL l D E X sb sL sx cL_law) (hcell : cells ≤ 600000 ∧ slots ≤ 7302249) (hx : x3 = nI i) (hi : i + 6 ≤ sL) (hL : sL ≤ 3072) (hk : ∀ μ1 ν1, S μ1 ν1 → GL l D E X Q cells slots 1398 [some (.ref sb), some (.ref (D.1 0)), some (.ref (E.1 0)), some (.int x3)] [] μ1 ν1) : ∀ μ ν, S μ ν → GL l D E X Q cells slots 330 [some (.ref sb), some (.ref (D.1 0)), some (.ref (E.1 0)), some (.int x3)] [] μ ν := by
  intro μ ν hs
  obtain ⟨r, μ1, ν1, h1, h2, h3⟩ := hS (sx (ix (x3 + 1))) (sx (ix (x3 + 2))) (sx (ix (x3 + 3))) μ ν hs
  refine gl_aload_n hX dL_law_330 rfl rfl ?_
  refine gl_aload_n hX dL_law_331 rfl rfl ?_
  refine gl_iload_n hX dL_law_332 rfl rfl ?_
  refine gl_iconst hX dL_law_333 k_1 ?_
  refine gl_iadd hX dL_law_334 ?_
  refine gl_sld hX (ix_in hx hi hL (c := 1) (k := 1) (by decide) (by decide)) dL_law_335 ?_
  refine gl_aload_n hX dL_law_336 rfl rfl ?_
  refine gl_iload_n hX dL_law_337 rfl rfl ?_
  refine gl_iconst hX dL_law_338 k_2 ?_
  refine gl_iadd hX dL_law_339 ?_
  refine gl_sld hX (ix_in hx hi hL (c := 2) (k := 2) (by decide) (by decide)) dL_law_340 ?_
  refine gl_aload_n hX dL_law_341 rfl rfl ?_
  refine gl_iload_n hX dL_law_342 rfl rfl ?_
  refine gl_iconst hX dL_law_343 k_3 ?_
  refine gl_iadd hX dL_law_344 ?_
  refine gl_sld hX (ix_in hx hi hL (c := 3) (k := 3) (by decide) (by decide)) dL_law_345 ?_
  refine gl_callC hX (c_X8_gate _ _ _ h1) mv_X8_gate wlm_466 kd_true_0 rfl (by decide) (by decide) hcell rfl rfl (Nat.le_of_ble_eq_true rfl) dL_law_346 ?_
  refine gl_aload_n hX dL_law_349 rfl rfl ?_
  refine gl_aload_n hX dL_law_350 rfl rfl ?_
  refine gl_iload_n hX dL_law_351 rfl rfl ?_
  refine gl_iconst hX dL_law_352 k_1 ?_
  refine gl_iadd hX dL_law_353 ?_
  refine gl_sld hX (ix_in hx hi hL (c := 1) (k := 1) (by decide) (by decide)) dL_law_354 ?_
  refine gl_aload_n hX dL_law_355 rfl rfl ?_
  refine gl_iload_n hX dL_law_356 rfl rfl ?_
  refine gl_iconst hX dL_law_357 k_2 ?_
  refine gl_iadd hX dL_law_358 ?_
  refine gl_sld hX (ix_in hx hi hL (c := 2) (k := 2) (by decide) (by decide)) dL_law_359 ?_
  refine gl_aload_n hX dL_law_360 rfl rfl ?_
  refine gl_iload_n hX dL_law_361 rfl rfl ?_
  refine gl_iconst hX dL_law_362 k_3 ?_
  refine gl_iadd hX dL_law_363 ?_
  refine gl_sld hX (ix_in hx hi hL (c := 3) (k := 3) (by decide) (by decide)) dL_law_364 ?_
  refine gl_callR hX (c_X9_gate _ _ _ h2) mv_X9_gate wlm_1124 kd_false_0 rfl (by decide) (by decide) hcell rfl rfl (Nat.le_of_ble_eq_true rfl) dL_law_365 ?_
  exact gl_icmp_eq (tgt := 1398) hX dL_law_368 (by decide) (fun _ => hk μ1 ν1 h3) (fun q => absurd rfl q)
set_option maxRecDepth 100000 in
set_option maxHeartbeats 4000000 in
theorem tl_gateIs {l : Launch} {D E : DT} {X : XT} {Q : State → Prop} {cells slots : Nat} {sb sL : Nat} {sx : Nat → Int32} {S : Mem → Mem → Prop} {x3 : Int32} {i : Nat} (hS : Sim_gateIs S) (hX : CxL l D E X sb sL sx cL_law) (hcell : cells ≤ 600000 ∧ slots ≤ 7302249) (hx : x3 = nI i) (hi : i + 6 ≤ sL) (hL : sL ≤ 3072) (hk : ∀ μ1 ν1, S μ1 ν1 → GL l D E X Q cells slots 1398 [some (.ref sb), some (.ref (D.1 0)), some (.ref (E.1 0)), some (.int x3)] [] μ1 ν1) : ∀ μ ν, S μ ν → GL l D E X Q cells slots 373 [some (.ref sb), some (.ref (D.1 0)), some (.ref (E.1 0)), some (.int x3)] [] μ ν := by
  intro μ ν hs
  obtain ⟨r, μ1, ν1, h1, h2, h3⟩ := hS (sx (ix (x3 + 1))) (sx (ix (x3 + 2))) μ ν hs
  refine gl_aload_n hX dL_law_373 rfl rfl ?_
  refine gl_aload_n hX dL_law_374 rfl rfl ?_
  refine gl_iload_n hX dL_law_375 rfl rfl ?_
  refine gl_iconst hX dL_law_376 k_1 ?_
  refine gl_iadd hX dL_law_377 ?_
  refine gl_sld hX (ix_in hx hi hL (c := 1) (k := 1) (by decide) (by decide)) dL_law_378 ?_
  refine gl_aload_n hX dL_law_379 rfl rfl ?_
  refine gl_iload_n hX dL_law_380 rfl rfl ?_
  refine gl_iconst hX dL_law_381 k_2 ?_
  refine gl_iadd hX dL_law_382 ?_
  refine gl_sld hX (ix_in hx hi hL (c := 2) (k := 2) (by decide) (by decide)) dL_law_383 ?_
  refine gl_callC hX (c_X8_gateIs _ _ h1) mv_X8_gateIs wlm_480 kd_true_0 rfl (by decide) (by decide) hcell rfl rfl (Nat.le_of_ble_eq_true rfl) dL_law_384 ?_
  refine gl_aload_n hX dL_law_387 rfl rfl ?_
  refine gl_aload_n hX dL_law_388 rfl rfl ?_
  refine gl_iload_n hX dL_law_389 rfl rfl ?_
  refine gl_iconst hX dL_law_390 k_1 ?_
  refine gl_iadd hX dL_law_391 ?_
  refine gl_sld hX (ix_in hx hi hL (c := 1) (k := 1) (by decide) (by decide)) dL_law_392 ?_
  refine gl_aload_n hX dL_law_393 rfl rfl ?_
  refine gl_iload_n hX dL_law_394 rfl rfl ?_
  refine gl_iconst hX dL_law_395 k_2 ?_
  refine gl_iadd hX dL_law_396 ?_
  refine gl_sld hX (ix_in hx hi hL (c := 2) (k := 2) (by decide) (by decide)) dL_law_397 ?_
  refine gl_callR hX (c_X9_gateIs _ _ h2) mv_X9_gateIs wlm_1138 kd_false_0 rfl (by decide) (by decide) hcell rfl rfl (Nat.le_of_ble_eq_true rfl) dL_law_398 ?_
  exact gl_icmp_eq (tgt := 1398) hX dL_law_401 (by decide) (fun _ => hk μ1 ν1 h3) (fun q => absurd rfl q)
set_option maxRecDepth 100000 in
set_option maxHeartbeats 4000000 in
theorem tl_hold {l : Launch} {D E : DT} {X : XT} {Q : State → Prop} {cells slots : Nat} {sb sL : Nat} {sx : Nat → Int32} {S : Mem → Mem → Prop} {x3 : Int32} {i : Nat} (hS : Sim_hold S) (hX : CxL l D E X sb sL sx cL_law) (hcell : cells ≤ 600000 ∧ slots ≤ 7302249) (hx : x3 = nI i) (hi : i + 6 ≤ sL) (hL : sL ≤ 3072) (hk : ∀ μ1 ν1, S μ1 ν1 → GL l D E X Q cells slots 1398 [some (.ref sb), some (.ref (D.1 0)), some (.ref (E.1 0)), some (.int x3)] [] μ1 ν1) : ∀ μ ν, S μ ν → GL l D E X Q cells slots 406 [some (.ref sb), some (.ref (D.1 0)), some (.ref (E.1 0)), some (.int x3)] [] μ ν := by
  intro μ ν hs
  obtain ⟨r, μ1, ν1, h1, h2, h3⟩ := hS (sx (ix (x3 + 1))) (sx (ix (x3 + 2))) μ ν hs
  refine gl_aload_n hX dL_law_406 rfl rfl ?_
  refine gl_aload_n hX dL_law_407 rfl rfl ?_
  refine gl_iload_n hX dL_law_408 rfl rfl ?_
  refine gl_iconst hX dL_law_409 k_1 ?_
  refine gl_iadd hX dL_law_410 ?_
  refine gl_sld hX (ix_in hx hi hL (c := 1) (k := 1) (by decide) (by decide)) dL_law_411 ?_
  refine gl_aload_n hX dL_law_412 rfl rfl ?_
  refine gl_iload_n hX dL_law_413 rfl rfl ?_
  refine gl_iconst hX dL_law_414 k_2 ?_
  refine gl_iadd hX dL_law_415 ?_
  refine gl_sld hX (ix_in hx hi hL (c := 2) (k := 2) (by decide) (by decide)) dL_law_416 ?_
  refine gl_callC hX (c_X8_hold _ _ h1) mv_X8_hold wlm_485 kd_true_0 rfl (by decide) (by decide) hcell rfl rfl (Nat.le_of_ble_eq_true rfl) dL_law_417 ?_
  refine gl_aload_n hX dL_law_420 rfl rfl ?_
  refine gl_aload_n hX dL_law_421 rfl rfl ?_
  refine gl_iload_n hX dL_law_422 rfl rfl ?_
  refine gl_iconst hX dL_law_423 k_1 ?_
  refine gl_iadd hX dL_law_424 ?_
  refine gl_sld hX (ix_in hx hi hL (c := 1) (k := 1) (by decide) (by decide)) dL_law_425 ?_
  refine gl_aload_n hX dL_law_426 rfl rfl ?_
  refine gl_iload_n hX dL_law_427 rfl rfl ?_
  refine gl_iconst hX dL_law_428 k_2 ?_
  refine gl_iadd hX dL_law_429 ?_
  refine gl_sld hX (ix_in hx hi hL (c := 2) (k := 2) (by decide) (by decide)) dL_law_430 ?_
  refine gl_callR hX (c_X9_hold _ _ h2) mv_X9_hold wlm_1146 kd_false_0 rfl (by decide) (by decide) hcell rfl rfl (Nat.le_of_ble_eq_true rfl) dL_law_431 ?_
  exact gl_icmp_eq (tgt := 1398) hX dL_law_434 (by decide) (fun _ => hk μ1 ν1 h3) (fun q => absurd rfl q)
set_option maxRecDepth 100000 in
set_option maxHeartbeats 4000000 in
theorem tl_pass {l : Launch} {D E : DT} {X : XT} {Q : State → Prop} {cells slots : Nat} {sb sL : Nat} {sx : Nat → Int32} {S : Mem → Mem → Prop} {x3 : Int32} {i : Nat} (hS : Sim_pass S) (hX : CxL l D E X sb sL sx cL_law) (hcell : cells ≤ 600000 ∧ slots ≤ 7302249) (hx : x3 = nI i) (hi : i + 6 ≤ sL) (hL : sL ≤ 3072) (hk : ∀ μ1 ν1, S μ1 ν1 → GL l D E X Q cells slots 1398 [some (.ref sb), some (.ref (D.1 0)), some (.ref (E.1 0)), some (.int x3)] [] μ1 ν1) : ∀ μ ν, S μ ν → GL l D E X Q cells slots 439 [some (.ref sb), some (.ref (D.1 0)), some (.ref (E.1 0)), some (.int x3)] [] μ ν := by
  intro μ ν hs
  obtain ⟨r, μ1, ν1, h1, h2, h3⟩ := hS (sx (ix (x3 + 1))) (sx (ix (x3 + 2))) μ ν hs
  refine gl_aload_n hX dL_law_439 rfl rfl ?_
  refine gl_aload_n hX dL_law_440 rfl rfl ?_
  refine gl_iload_n hX dL_law_441 rfl rfl ?_
  refine gl_iconst hX dL_law_442 k_1 ?_
  refine gl_iadd hX dL_law_443 ?_
  refine gl_sld hX (ix_in hx hi hL (c := 1) (k := 1) (by decide) (by decide)) dL_law_444 ?_
  refine gl_aload_n hX dL_law_445 rfl rfl ?_
  refine gl_iload_n hX dL_law_446 rfl rfl ?_
  refine gl_iconst hX dL_law_447 k_2 ?_
  refine gl_iadd hX dL_law_448 ?_
  refine gl_sld hX (ix_in hx hi hL (c := 2) (k := 2) (by decide) (by decide)) dL_law_449 ?_
  refine gl_callC hX (c_X8_pass _ _ h1) mv_X8_pass wlm_493 kd_true_0 rfl (by decide) (by decide) hcell rfl rfl (Nat.le_of_ble_eq_true rfl) dL_law_450 ?_
  refine gl_aload_n hX dL_law_453 rfl rfl ?_
  refine gl_aload_n hX dL_law_454 rfl rfl ?_
  refine gl_iload_n hX dL_law_455 rfl rfl ?_
  refine gl_iconst hX dL_law_456 k_1 ?_
  refine gl_iadd hX dL_law_457 ?_
  refine gl_sld hX (ix_in hx hi hL (c := 1) (k := 1) (by decide) (by decide)) dL_law_458 ?_
  refine gl_aload_n hX dL_law_459 rfl rfl ?_
  refine gl_iload_n hX dL_law_460 rfl rfl ?_
  refine gl_iconst hX dL_law_461 k_2 ?_
  refine gl_iadd hX dL_law_462 ?_
  refine gl_sld hX (ix_in hx hi hL (c := 2) (k := 2) (by decide) (by decide)) dL_law_463 ?_
  refine gl_callR hX (c_X9_pass _ _ h2) mv_X9_pass wlm_1150 kd_false_0 rfl (by decide) (by decide) hcell rfl rfl (Nat.le_of_ble_eq_true rfl) dL_law_464 ?_
  exact gl_icmp_eq (tgt := 1398) hX dL_law_467 (by decide) (fun _ => hk μ1 ν1 h3) (fun q => absurd rfl q)
set_option maxRecDepth 100000 in
set_option maxHeartbeats 4000000 in
theorem tl_stock {l : Launch} {D E : DT} {X : XT} {Q : State → Prop} {cells slots : Nat} {sb sL : Nat} {sx : Nat → Int32} {S : Mem → Mem → Prop} {x3 : Int32} {i : Nat} (hS : Sim_stock S) (hX : CxL l D E X sb sL sx cL_law) (hcell : cells ≤ 600000 ∧ slots ≤ 7302249) (hx : x3 = nI i) (hi : i + 6 ≤ sL) (hL : sL ≤ 3072) (hk : ∀ μ1 ν1, S μ1 ν1 → GL l D E X Q cells slots 1398 [some (.ref sb), some (.ref (D.1 0)), some (.ref (E.1 0)), some (.int x3)] [] μ1 ν1) : ∀ μ ν, S μ ν → GL l D E X Q cells slots 472 [some (.ref sb), some (.ref (D.1 0)), some (.ref (E.1 0)), some (.int x3)] [] μ ν := by
  intro μ ν hs
  obtain ⟨r, μ1, ν1, h1, h2, h3⟩ := hS (sx (ix (x3 + 1))) μ ν hs
  refine gl_aload_n hX dL_law_472 rfl rfl ?_
  refine gl_aload_n hX dL_law_473 rfl rfl ?_
  refine gl_iload_n hX dL_law_474 rfl rfl ?_
  refine gl_iconst hX dL_law_475 k_1 ?_
  refine gl_iadd hX dL_law_476 ?_
  refine gl_sld hX (ix_in hx hi hL (c := 1) (k := 1) (by decide) (by decide)) dL_law_477 ?_
  refine gl_callC hX (c_X8_stock _ h1) mv_X8_stock wlm_501 kd_true_0 rfl (by decide) (by decide) hcell rfl rfl (Nat.le_of_ble_eq_true rfl) dL_law_478 ?_
  refine gl_aload_n hX dL_law_481 rfl rfl ?_
  refine gl_aload_n hX dL_law_482 rfl rfl ?_
  refine gl_iload_n hX dL_law_483 rfl rfl ?_
  refine gl_iconst hX dL_law_484 k_1 ?_
  refine gl_iadd hX dL_law_485 ?_
  refine gl_sld hX (ix_in hx hi hL (c := 1) (k := 1) (by decide) (by decide)) dL_law_486 ?_
  refine gl_callR hX (c_X9_stock _ h2) mv_X9_stock wlm_1154 kd_false_0 rfl (by decide) (by decide) hcell rfl rfl (Nat.le_of_ble_eq_true rfl) dL_law_487 ?_
  exact gl_icmp_eq (tgt := 1398) hX dL_law_490 (by decide) (fun _ => hk μ1 ν1 h3) (fun q => absurd rfl q)
set_option maxRecDepth 100000 in
set_option maxHeartbeats 4000000 in
theorem tl_stockAt {l : Launch} {D E : DT} {X : XT} {Q : State → Prop} {cells slots : Nat} {sb sL : Nat} {sx : Nat → Int32} {S : Mem → Mem → Prop} {x3 : Int32} {i : Nat} (hS : Sim_stockAt S) (hX : CxL l D E X sb sL sx cL_law) (hcell : cells ≤ 600000 ∧ slots ≤ 7302249) (hx : x3 = nI i) (hi : i + 6 ≤ sL) (hL : sL ≤ 3072) (hk : ∀ μ1 ν1, S μ1 ν1 → GL l D E X Q cells slots 1398 [some (.ref sb), some (.ref (D.1 0)), some (.ref (E.1 0)), some (.int x3)] [] μ1 ν1) : ∀ μ ν, S μ ν → GL l D E X Q cells slots 495 [some (.ref sb), some (.ref (D.1 0)), some (.ref (E.1 0)), some (.int x3)] [] μ ν := by
  intro μ ν hs
  obtain ⟨r, μ1, ν1, h1, h2, h3⟩ := hS (sx (ix (x3 + 1))) μ ν hs
  refine gl_aload_n hX dL_law_495 rfl rfl ?_
  refine gl_aload_n hX dL_law_496 rfl rfl ?_
  refine gl_iload_n hX dL_law_497 rfl rfl ?_
  refine gl_iconst hX dL_law_498 k_1 ?_
  refine gl_iadd hX dL_law_499 ?_
  refine gl_sld hX (ix_in hx hi hL (c := 1) (k := 1) (by decide) (by decide)) dL_law_500 ?_
  refine gl_callC hX (c_X8_stockAt _ h1) mv_X8_stockAt wlm_509 kd_true_0 rfl (by decide) (by decide) hcell rfl rfl (Nat.le_of_ble_eq_true rfl) dL_law_501 ?_
  refine gl_aload_n hX dL_law_504 rfl rfl ?_
  refine gl_aload_n hX dL_law_505 rfl rfl ?_
  refine gl_iload_n hX dL_law_506 rfl rfl ?_
  refine gl_iconst hX dL_law_507 k_1 ?_
  refine gl_iadd hX dL_law_508 ?_
  refine gl_sld hX (ix_in hx hi hL (c := 1) (k := 1) (by decide) (by decide)) dL_law_509 ?_
  refine gl_callR hX (c_X9_stockAt _ h2) mv_X9_stockAt wlm_1158 kd_false_0 rfl (by decide) (by decide) hcell rfl rfl (Nat.le_of_ble_eq_true rfl) dL_law_510 ?_
  exact gl_icmp_eq (tgt := 1398) hX dL_law_513 (by decide) (fun _ => hk μ1 ν1 h3) (fun q => absurd rfl q)
set_option maxRecDepth 100000 in
set_option maxHeartbeats 4000000 in
theorem tl_grass {l : Launch} {D E : DT} {X : XT} {Q : State → Prop} {cells slots : Nat} {sb sL : Nat} {sx : Nat → Int32} {S : Mem → Mem → Prop} {x3 : Int32} {i : Nat} (hS : Sim_grass S) (hX : CxL l D E X sb sL sx cL_law) (hcell : cells ≤ 600000 ∧ slots ≤ 7302249) (hx : x3 = nI i) (hi : i + 6 ≤ sL) (hL : sL ≤ 3072) (hk : ∀ μ1 ν1, S μ1 ν1 → GL l D E X Q cells slots 1398 [some (.ref sb), some (.ref (D.1 0)), some (.ref (E.1 0)), some (.int x3)] [] μ1 ν1) : ∀ μ ν, S μ ν → GL l D E X Q cells slots 518 [some (.ref sb), some (.ref (D.1 0)), some (.ref (E.1 0)), some (.int x3)] [] μ ν := by
  intro μ ν hs
  obtain ⟨r, μ1, ν1, h1, h2, h3⟩ := hS (sx (ix (x3 + 1))) (sx (ix (x3 + 2))) μ ν hs
  refine gl_aload_n hX dL_law_518 rfl rfl ?_
  refine gl_aload_n hX dL_law_519 rfl rfl ?_
  refine gl_iload_n hX dL_law_520 rfl rfl ?_
  refine gl_iconst hX dL_law_521 k_1 ?_
  refine gl_iadd hX dL_law_522 ?_
  refine gl_sld hX (ix_in hx hi hL (c := 1) (k := 1) (by decide) (by decide)) dL_law_523 ?_
  refine gl_aload_n hX dL_law_524 rfl rfl ?_
  refine gl_iload_n hX dL_law_525 rfl rfl ?_
  refine gl_iconst hX dL_law_526 k_2 ?_
  refine gl_iadd hX dL_law_527 ?_
  refine gl_sld hX (ix_in hx hi hL (c := 2) (k := 2) (by decide) (by decide)) dL_law_528 ?_
  refine gl_callC hX (c_X8_grass _ _ h1) mv_X8_grass wlm_513 kd_true_0 rfl (by decide) (by decide) hcell rfl rfl (Nat.le_of_ble_eq_true rfl) dL_law_529 ?_
  refine gl_aload_n hX dL_law_532 rfl rfl ?_
  refine gl_aload_n hX dL_law_533 rfl rfl ?_
  refine gl_iload_n hX dL_law_534 rfl rfl ?_
  refine gl_iconst hX dL_law_535 k_1 ?_
  refine gl_iadd hX dL_law_536 ?_
  refine gl_sld hX (ix_in hx hi hL (c := 1) (k := 1) (by decide) (by decide)) dL_law_537 ?_
  refine gl_aload_n hX dL_law_538 rfl rfl ?_
  refine gl_iload_n hX dL_law_539 rfl rfl ?_
  refine gl_iconst hX dL_law_540 k_2 ?_
  refine gl_iadd hX dL_law_541 ?_
  refine gl_sld hX (ix_in hx hi hL (c := 2) (k := 2) (by decide) (by decide)) dL_law_542 ?_
  refine gl_callR hX (c_X9_grass _ _ h2) mv_X9_grass wlm_1162 kd_false_0 rfl (by decide) (by decide) hcell rfl rfl (Nat.le_of_ble_eq_true rfl) dL_law_543 ?_
  exact gl_icmp_eq (tgt := 1398) hX dL_law_546 (by decide) (fun _ => hk μ1 ν1 h3) (fun q => absurd rfl q)
set_option maxRecDepth 100000 in
set_option maxHeartbeats 4000000 in
theorem tl_feed {l : Launch} {D E : DT} {X : XT} {Q : State → Prop} {cells slots : Nat} {sb sL : Nat} {sx : Nat → Int32} {S : Mem → Mem → Prop} {x3 : Int32} {i : Nat} (hS : Sim_feed S) (hX : CxL l D E X sb sL sx cL_law) (hcell : cells ≤ 600000 ∧ slots ≤ 7302249) (hx : x3 = nI i) (hi : i + 6 ≤ sL) (hL : sL ≤ 3072) (hk : ∀ μ1 ν1, S μ1 ν1 → GL l D E X Q cells slots 1398 [some (.ref sb), some (.ref (D.1 0)), some (.ref (E.1 0)), some (.int x3)] [] μ1 ν1) : ∀ μ ν, S μ ν → GL l D E X Q cells slots 551 [some (.ref sb), some (.ref (D.1 0)), some (.ref (E.1 0)), some (.int x3)] [] μ ν := by
  intro μ ν hs
  obtain ⟨r, μ1, ν1, h1, h2, h3⟩ := hS ((jlshl ((sx (ix (x3 + 1))).toInt64) 32) ||| ((sx (ix (x3 + 2))).toInt64 &&& 4294967295)) (sx (ix (x3 + 3))) μ ν hs
  refine gl_aload_n hX dL_law_551 rfl rfl ?_
  refine gl_aload_n hX dL_law_552 rfl rfl ?_
  refine gl_iload_n hX dL_law_553 rfl rfl ?_
  refine gl_iconst hX dL_law_554 k_1 ?_
  refine gl_iadd hX dL_law_555 ?_
  refine gl_sld hX (ix_in hx hi hL (c := 1) (k := 1) (by decide) (by decide)) dL_law_556 ?_
  refine gl_i2l hX dL_law_557 ?_
  refine gl_bipush hX dL_law_558 kb_32 ?_
  refine gl_lshl hX dL_law_560 ?_
  refine gl_aload_n hX dL_law_561 rfl rfl ?_
  refine gl_iload_n hX dL_law_562 rfl rfl ?_
  refine gl_iconst hX dL_law_563 k_2 ?_
  refine gl_iadd hX dL_law_564 ?_
  refine gl_sld hX (ix_in hx hi hL (c := 2) (k := 2) (by decide) (by decide)) dL_law_565 ?_
  refine gl_i2l hX dL_law_566 ?_
  refine gl_ldc2 hX dL_law_567 wlc_1456 ?_
  refine gl_land hX dL_law_570 ?_
  refine gl_lor hX dL_law_571 ?_
  refine gl_aload_n hX dL_law_572 rfl rfl ?_
  refine gl_iload_n hX dL_law_573 rfl rfl ?_
  refine gl_iconst hX dL_law_574 k_3 ?_
  refine gl_iadd hX dL_law_575 ?_
  refine gl_sld hX (ix_in hx hi hL (c := 3) (k := 3) (by decide) (by decide)) dL_law_576 ?_
  refine gl_callC hX (c_X8_feed _ _ h1) mv_X8_feed wlm_517 kd_true_0 rfl (by decide) (by decide) hcell rfl rfl (Nat.le_of_ble_eq_true rfl) dL_law_577 ?_
  refine gl_aload_n hX dL_law_580 rfl rfl ?_
  refine gl_aload_n hX dL_law_581 rfl rfl ?_
  refine gl_iload_n hX dL_law_582 rfl rfl ?_
  refine gl_iconst hX dL_law_583 k_1 ?_
  refine gl_iadd hX dL_law_584 ?_
  refine gl_sld hX (ix_in hx hi hL (c := 1) (k := 1) (by decide) (by decide)) dL_law_585 ?_
  refine gl_i2l hX dL_law_586 ?_
  refine gl_bipush hX dL_law_587 kb_32 ?_
  refine gl_lshl hX dL_law_589 ?_
  refine gl_aload_n hX dL_law_590 rfl rfl ?_
  refine gl_iload_n hX dL_law_591 rfl rfl ?_
  refine gl_iconst hX dL_law_592 k_2 ?_
  refine gl_iadd hX dL_law_593 ?_
  refine gl_sld hX (ix_in hx hi hL (c := 2) (k := 2) (by decide) (by decide)) dL_law_594 ?_
  refine gl_i2l hX dL_law_595 ?_
  refine gl_ldc2 hX dL_law_596 wlc_1456 ?_
  refine gl_land hX dL_law_599 ?_
  refine gl_lor hX dL_law_600 ?_
  refine gl_aload_n hX dL_law_601 rfl rfl ?_
  refine gl_iload_n hX dL_law_602 rfl rfl ?_
  refine gl_iconst hX dL_law_603 k_3 ?_
  refine gl_iadd hX dL_law_604 ?_
  refine gl_sld hX (ix_in hx hi hL (c := 3) (k := 3) (by decide) (by decide)) dL_law_605 ?_
  refine gl_callR hX (c_X9_feed _ _ h2) mv_X9_feed wlm_1166 kd_false_0 rfl (by decide) (by decide) hcell rfl rfl (Nat.le_of_ble_eq_true rfl) dL_law_606 ?_
  exact gl_icmp_eq (tgt := 1398) hX dL_law_609 (by decide) (fun _ => hk μ1 ν1 h3) (fun q => absurd rfl q)
set_option maxRecDepth 100000 in
set_option maxHeartbeats 4000000 in
theorem tl_text {l : Launch} {D E : DT} {X : XT} {Q : State → Prop} {cells slots : Nat} {sb sL : Nat} {sx : Nat → Int32} {S : Mem → Mem → Prop} {x3 : Int32} {i : Nat} (hS : Sim_text S) (hX : CxL l D E X sb sL sx cL_law) (hcell : cells ≤ 600000 ∧ slots ≤ 7302249) (hx : x3 = nI i) (hi : i + 6 ≤ sL) (hL : sL ≤ 3072) (hk : ∀ μ1 ν1, S μ1 ν1 → GL l D E X Q cells slots 1398 [some (.ref sb), some (.ref (D.1 0)), some (.ref (E.1 0)), some (.int x3)] [] μ1 ν1) : ∀ μ ν, S μ ν → GL l D E X Q cells slots 614 [some (.ref sb), some (.ref (D.1 0)), some (.ref (E.1 0)), some (.int x3)] [] μ ν := by
  intro μ ν hs
  obtain ⟨r, μ1, ν1, h1, h2, h3⟩ := hS (sx (ix (x3 + 1))) μ ν hs
  refine gl_aload_n hX dL_law_614 rfl rfl ?_
  refine gl_aload_n hX dL_law_615 rfl rfl ?_
  refine gl_iload_n hX dL_law_616 rfl rfl ?_
  refine gl_iconst hX dL_law_617 k_1 ?_
  refine gl_iadd hX dL_law_618 ?_
  refine gl_sld hX (ix_in hx hi hL (c := 1) (k := 1) (by decide) (by decide)) dL_law_619 ?_
  refine gl_callC hX (c_X8_text _ h1) mv_X8_text wlm_525 kd_true_0 rfl (by decide) (by decide) hcell rfl rfl (Nat.le_of_ble_eq_true rfl) dL_law_620 ?_
  refine gl_aload_n hX dL_law_623 rfl rfl ?_
  refine gl_aload_n hX dL_law_624 rfl rfl ?_
  refine gl_iload_n hX dL_law_625 rfl rfl ?_
  refine gl_iconst hX dL_law_626 k_1 ?_
  refine gl_iadd hX dL_law_627 ?_
  refine gl_sld hX (ix_in hx hi hL (c := 1) (k := 1) (by decide) (by decide)) dL_law_628 ?_
  refine gl_callR hX (c_X9_text _ h2) mv_X9_text wlm_1171 kd_false_0 rfl (by decide) (by decide) hcell rfl rfl (Nat.le_of_ble_eq_true rfl) dL_law_629 ?_
  exact gl_icmp_eq (tgt := 1398) hX dL_law_632 (by decide) (fun _ => hk μ1 ν1 h3) (fun q => absurd rfl q)
set_option maxRecDepth 100000 in
set_option maxHeartbeats 4000000 in
theorem tl_untell {l : Launch} {D E : DT} {X : XT} {Q : State → Prop} {cells slots : Nat} {sb sL : Nat} {sx : Nat → Int32} {S : Mem → Mem → Prop} {x3 : Int32} {i : Nat} (hS : Sim_untell S) (hX : CxL l D E X sb sL sx cL_law) (hcell : cells ≤ 600000 ∧ slots ≤ 7302249) (hx : x3 = nI i) (hi : i + 6 ≤ sL) (hL : sL ≤ 3072) (hk : ∀ μ1 ν1, S μ1 ν1 → GL l D E X Q cells slots 1398 [some (.ref sb), some (.ref (D.1 0)), some (.ref (E.1 0)), some (.int x3)] [] μ1 ν1) : ∀ μ ν, S μ ν → GL l D E X Q cells slots 637 [some (.ref sb), some (.ref (D.1 0)), some (.ref (E.1 0)), some (.int x3)] [] μ ν := by
  intro μ ν hs
  obtain ⟨r, μ1, ν1, h1, h2, h3⟩ := hS (sx (ix (x3 + 1))) μ ν hs
  refine gl_aload_n hX dL_law_637 rfl rfl ?_
  refine gl_aload_n hX dL_law_638 rfl rfl ?_
  refine gl_iload_n hX dL_law_639 rfl rfl ?_
  refine gl_iconst hX dL_law_640 k_1 ?_
  refine gl_iadd hX dL_law_641 ?_
  refine gl_sld hX (ix_in hx hi hL (c := 1) (k := 1) (by decide) (by decide)) dL_law_642 ?_
  refine gl_callC hX (c_X8_untell _ h1) mv_X8_untell wlm_680 kd_true_0 rfl (by decide) (by decide) hcell rfl rfl (Nat.le_of_ble_eq_true rfl) dL_law_643 ?_
  refine gl_aload_n hX dL_law_646 rfl rfl ?_
  refine gl_aload_n hX dL_law_647 rfl rfl ?_
  refine gl_iload_n hX dL_law_648 rfl rfl ?_
  refine gl_iconst hX dL_law_649 k_1 ?_
  refine gl_iadd hX dL_law_650 ?_
  refine gl_sld hX (ix_in hx hi hL (c := 1) (k := 1) (by decide) (by decide)) dL_law_651 ?_
  refine gl_callR hX (c_X9_untell _ h2) mv_X9_untell wlm_1219 kd_false_0 rfl (by decide) (by decide) hcell rfl rfl (Nat.le_of_ble_eq_true rfl) dL_law_652 ?_
  exact gl_icmp_eq (tgt := 1398) hX dL_law_655 (by decide) (fun _ => hk μ1 ν1 h3) (fun q => absurd rfl q)
set_option maxRecDepth 100000 in
set_option maxHeartbeats 4000000 in
theorem tl_law {l : Launch} {D E : DT} {X : XT} {Q : State → Prop} {cells slots : Nat} {sb sL : Nat} {sx : Nat → Int32} {S : Mem → Mem → Prop} {x3 : Int32} {i : Nat} (hS : Sim_law S) (hX : CxL l D E X sb sL sx cL_law) (hcell : cells ≤ 600000 ∧ slots ≤ 7302249) (hx : x3 = nI i) (hi : i + 6 ≤ sL) (hL : sL ≤ 3072) (hk : ∀ μ1 ν1, S μ1 ν1 → GL l D E X Q cells slots 1398 [some (.ref sb), some (.ref (D.1 0)), some (.ref (E.1 0)), some (.int x3)] [] μ1 ν1) : ∀ μ ν, S μ ν → GL l D E X Q cells slots 660 [some (.ref sb), some (.ref (D.1 0)), some (.ref (E.1 0)), some (.int x3)] [] μ ν := by
  intro μ ν hs
  obtain ⟨r, μ1, ν1, h1, h2, h3⟩ := hS (sx (ix (x3 + 1))) (sx (ix (x3 + 2))) (sx (ix (x3 + 3))) (sx (ix (x3 + 4))) μ ν hs
  refine gl_aload_n hX dL_law_660 rfl rfl ?_
  refine gl_aload_n hX dL_law_661 rfl rfl ?_
  refine gl_iload_n hX dL_law_662 rfl rfl ?_
  refine gl_iconst hX dL_law_663 k_1 ?_
  refine gl_iadd hX dL_law_664 ?_
  refine gl_sld hX (ix_in hx hi hL (c := 1) (k := 1) (by decide) (by decide)) dL_law_665 ?_
  refine gl_aload_n hX dL_law_666 rfl rfl ?_
  refine gl_iload_n hX dL_law_667 rfl rfl ?_
  refine gl_iconst hX dL_law_668 k_2 ?_
  refine gl_iadd hX dL_law_669 ?_
  refine gl_sld hX (ix_in hx hi hL (c := 2) (k := 2) (by decide) (by decide)) dL_law_670 ?_
  refine gl_aload_n hX dL_law_671 rfl rfl ?_
  refine gl_iload_n hX dL_law_672 rfl rfl ?_
  refine gl_iconst hX dL_law_673 k_3 ?_
  refine gl_iadd hX dL_law_674 ?_
  refine gl_sld hX (ix_in hx hi hL (c := 3) (k := 3) (by decide) (by decide)) dL_law_675 ?_
  refine gl_aload_n hX dL_law_676 rfl rfl ?_
  refine gl_iload_n hX dL_law_677 rfl rfl ?_
  refine gl_iconst hX dL_law_678 k_4 ?_
  refine gl_iadd hX dL_law_679 ?_
  refine gl_sld hX (ix_in hx hi hL (c := 4) (k := 4) (by decide) (by decide)) dL_law_680 ?_
  refine gl_callC hX (c_X8_law _ _ _ _ h1) mv_X8_law wlm_685 kd_true_0 rfl (by decide) (by decide) hcell rfl rfl (Nat.le_of_ble_eq_true rfl) dL_law_681 ?_
  refine gl_aload_n hX dL_law_684 rfl rfl ?_
  refine gl_aload_n hX dL_law_685 rfl rfl ?_
  refine gl_iload_n hX dL_law_686 rfl rfl ?_
  refine gl_iconst hX dL_law_687 k_1 ?_
  refine gl_iadd hX dL_law_688 ?_
  refine gl_sld hX (ix_in hx hi hL (c := 1) (k := 1) (by decide) (by decide)) dL_law_689 ?_
  refine gl_aload_n hX dL_law_690 rfl rfl ?_
  refine gl_iload_n hX dL_law_691 rfl rfl ?_
  refine gl_iconst hX dL_law_692 k_2 ?_
  refine gl_iadd hX dL_law_693 ?_
  refine gl_sld hX (ix_in hx hi hL (c := 2) (k := 2) (by decide) (by decide)) dL_law_694 ?_
  refine gl_aload_n hX dL_law_695 rfl rfl ?_
  refine gl_iload_n hX dL_law_696 rfl rfl ?_
  refine gl_iconst hX dL_law_697 k_3 ?_
  refine gl_iadd hX dL_law_698 ?_
  refine gl_sld hX (ix_in hx hi hL (c := 3) (k := 3) (by decide) (by decide)) dL_law_699 ?_
  refine gl_aload_n hX dL_law_700 rfl rfl ?_
  refine gl_iload_n hX dL_law_701 rfl rfl ?_
  refine gl_iconst hX dL_law_702 k_4 ?_
  refine gl_iadd hX dL_law_703 ?_
  refine gl_sld hX (ix_in hx hi hL (c := 4) (k := 4) (by decide) (by decide)) dL_law_704 ?_
  refine gl_callR hX (c_X9_law _ _ _ _ h2) mv_X9_law wlm_1223 kd_false_0 rfl (by decide) (by decide) hcell rfl rfl (Nat.le_of_ble_eq_true rfl) dL_law_705 ?_
  exact gl_icmp_eq (tgt := 1398) hX dL_law_708 (by decide) (fun _ => hk μ1 ν1 h3) (fun q => absurd rfl q)
set_option maxRecDepth 100000 in
set_option maxHeartbeats 4000000 in
theorem tl_hours {l : Launch} {D E : DT} {X : XT} {Q : State → Prop} {cells slots : Nat} {sb sL : Nat} {sx : Nat → Int32} {S : Mem → Mem → Prop} {x3 : Int32} {i : Nat} (hS : Sim_hours S) (hX : CxL l D E X sb sL sx cL_law) (hcell : cells ≤ 600000 ∧ slots ≤ 7302249) (hx : x3 = nI i) (hi : i + 6 ≤ sL) (hL : sL ≤ 3072) (hk : ∀ μ1 ν1, S μ1 ν1 → GL l D E X Q cells slots 1398 [some (.ref sb), some (.ref (D.1 0)), some (.ref (E.1 0)), some (.int x3)] [] μ1 ν1) : ∀ μ ν, S μ ν → GL l D E X Q cells slots 713 [some (.ref sb), some (.ref (D.1 0)), some (.ref (E.1 0)), some (.int x3)] [] μ ν := by
  intro μ ν hs
  obtain ⟨r, μ1, ν1, h1, h2, h3⟩ := hS (sx (ix (x3 + 1))) μ ν hs
  refine gl_aload_n hX dL_law_713 rfl rfl ?_
  refine gl_aload_n hX dL_law_714 rfl rfl ?_
  refine gl_iload_n hX dL_law_715 rfl rfl ?_
  refine gl_iconst hX dL_law_716 k_1 ?_
  refine gl_iadd hX dL_law_717 ?_
  refine gl_sld hX (ix_in hx hi hL (c := 1) (k := 1) (by decide) (by decide)) dL_law_718 ?_
  refine gl_callC hX (c_X8_hours _ h1) mv_X8_hours wlm_690 kd_true_0 rfl (by decide) (by decide) hcell rfl rfl (Nat.le_of_ble_eq_true rfl) dL_law_719 ?_
  refine gl_aload_n hX dL_law_722 rfl rfl ?_
  refine gl_aload_n hX dL_law_723 rfl rfl ?_
  refine gl_iload_n hX dL_law_724 rfl rfl ?_
  refine gl_iconst hX dL_law_725 k_1 ?_
  refine gl_iadd hX dL_law_726 ?_
  refine gl_sld hX (ix_in hx hi hL (c := 1) (k := 1) (by decide) (by decide)) dL_law_727 ?_
  refine gl_callR hX (c_X9_hours _ h2) mv_X9_hours wlm_1227 kd_false_0 rfl (by decide) (by decide) hcell rfl rfl (Nat.le_of_ble_eq_true rfl) dL_law_728 ?_
  exact gl_icmp_eq (tgt := 1398) hX dL_law_731 (by decide) (fun _ => hk μ1 ν1 h3) (fun q => absurd rfl q)
set_option maxRecDepth 100000 in
set_option maxHeartbeats 4000000 in
theorem tl_loose {l : Launch} {D E : DT} {X : XT} {Q : State → Prop} {cells slots : Nat} {sb sL : Nat} {sx : Nat → Int32} {S : Mem → Mem → Prop} {x3 : Int32} {i : Nat} (hS : Sim_loose S) (hX : CxL l D E X sb sL sx cL_law) (hcell : cells ≤ 600000 ∧ slots ≤ 7302249) (hx : x3 = nI i) (hi : i + 6 ≤ sL) (hL : sL ≤ 3072) (hk : ∀ μ1 ν1, S μ1 ν1 → GL l D E X Q cells slots 1398 [some (.ref sb), some (.ref (D.1 0)), some (.ref (E.1 0)), some (.int x3)] [] μ1 ν1) : ∀ μ ν, S μ ν → GL l D E X Q cells slots 736 [some (.ref sb), some (.ref (D.1 0)), some (.ref (E.1 0)), some (.int x3)] [] μ ν := by
  intro μ ν hs
  obtain ⟨r, μ1, ν1, h1, h2, h3⟩ := hS (sx (ix (x3 + 1))) μ ν hs
  refine gl_aload_n hX dL_law_736 rfl rfl ?_
  refine gl_aload_n hX dL_law_737 rfl rfl ?_
  refine gl_iload_n hX dL_law_738 rfl rfl ?_
  refine gl_iconst hX dL_law_739 k_1 ?_
  refine gl_iadd hX dL_law_740 ?_
  refine gl_sld hX (ix_in hx hi hL (c := 1) (k := 1) (by decide) (by decide)) dL_law_741 ?_
  refine gl_callC hX (c_X8_loose _ h1) mv_X8_loose wlm_723 kd_true_0 rfl (by decide) (by decide) hcell rfl rfl (Nat.le_of_ble_eq_true rfl) dL_law_742 ?_
  refine gl_aload_n hX dL_law_745 rfl rfl ?_
  refine gl_aload_n hX dL_law_746 rfl rfl ?_
  refine gl_iload_n hX dL_law_747 rfl rfl ?_
  refine gl_iconst hX dL_law_748 k_1 ?_
  refine gl_iadd hX dL_law_749 ?_
  refine gl_sld hX (ix_in hx hi hL (c := 1) (k := 1) (by decide) (by decide)) dL_law_750 ?_
  refine gl_callR hX (c_X9_loose _ h2) mv_X9_loose wlm_1256 kd_false_0 rfl (by decide) (by decide) hcell rfl rfl (Nat.le_of_ble_eq_true rfl) dL_law_751 ?_
  exact gl_icmp_eq (tgt := 1398) hX dL_law_754 (by decide) (fun _ => hk μ1 ν1 h3) (fun q => absurd rfl q)
set_option maxRecDepth 100000 in
set_option maxHeartbeats 4000000 in
theorem tl_hour {l : Launch} {D E : DT} {X : XT} {Q : State → Prop} {cells slots : Nat} {sb sL : Nat} {sx : Nat → Int32} {S : Mem → Mem → Prop} {x3 : Int32} {i : Nat} (hS : Sim_hour S) (hX : CxL l D E X sb sL sx cL_law) (hcell : cells ≤ 600000 ∧ slots ≤ 7302249) (hx : x3 = nI i) (hi : i + 6 ≤ sL) (hL : sL ≤ 3072) (hk : ∀ μ1 ν1, S μ1 ν1 → GL l D E X Q cells slots 1398 [some (.ref sb), some (.ref (D.1 0)), some (.ref (E.1 0)), some (.int x3)] [] μ1 ν1) : ∀ μ ν, S μ ν → GL l D E X Q cells slots 759 [some (.ref sb), some (.ref (D.1 0)), some (.ref (E.1 0)), some (.int x3)] [] μ ν := by
  intro μ ν hs
  obtain ⟨r, μ1, ν1, h1, h2, h3⟩ := hS (sx (ix (x3 + 1))) μ ν hs
  refine gl_aload_n hX dL_law_759 rfl rfl ?_
  refine gl_aload_n hX dL_law_760 rfl rfl ?_
  refine gl_iload_n hX dL_law_761 rfl rfl ?_
  refine gl_iconst hX dL_law_762 k_1 ?_
  refine gl_iadd hX dL_law_763 ?_
  refine gl_sld hX (ix_in hx hi hL (c := 1) (k := 1) (by decide) (by decide)) dL_law_764 ?_
  refine gl_callC hX (c_X8_hour _ h1) mv_X8_hour wlm_737 kd_true_0 rfl (by decide) (by decide) hcell rfl rfl (Nat.le_of_ble_eq_true rfl) dL_law_765 ?_
  refine gl_aload_n hX dL_law_768 rfl rfl ?_
  refine gl_aload_n hX dL_law_769 rfl rfl ?_
  refine gl_iload_n hX dL_law_770 rfl rfl ?_
  refine gl_iconst hX dL_law_771 k_1 ?_
  refine gl_iadd hX dL_law_772 ?_
  refine gl_sld hX (ix_in hx hi hL (c := 1) (k := 1) (by decide) (by decide)) dL_law_773 ?_
  refine gl_callR hX (c_X9_hour _ h2) mv_X9_hour wlm_1269 kd_false_0 rfl (by decide) (by decide) hcell rfl rfl (Nat.le_of_ble_eq_true rfl) dL_law_774 ?_
  exact gl_icmp_eq (tgt := 1398) hX dL_law_777 (by decide) (fun _ => hk μ1 ν1 h3) (fun q => absurd rfl q)
set_option maxRecDepth 100000 in
set_option maxHeartbeats 4000000 in
theorem tl_seed {l : Launch} {D E : DT} {X : XT} {Q : State → Prop} {cells slots : Nat} {sb sL : Nat} {sx : Nat → Int32} {S : Mem → Mem → Prop} {x3 : Int32} {i : Nat} (hS : Sim_seed S) (hX : CxL l D E X sb sL sx cL_law) (hcell : cells ≤ 600000 ∧ slots ≤ 7302249) (hx : x3 = nI i) (hi : i + 6 ≤ sL) (hL : sL ≤ 3072) (hk : ∀ μ1 ν1, S μ1 ν1 → GL l D E X Q cells slots 1398 [some (.ref sb), some (.ref (D.1 0)), some (.ref (E.1 0)), some (.int x3)] [] μ1 ν1) : ∀ μ ν, S μ ν → GL l D E X Q cells slots 782 [some (.ref sb), some (.ref (D.1 0)), some (.ref (E.1 0)), some (.int x3)] [] μ ν := by
  intro μ ν hs
  obtain ⟨r, μ1, ν1, h1, h2, h3⟩ := hS (sx (ix (x3 + 1))) μ ν hs
  refine gl_aload_n hX dL_law_782 rfl rfl ?_
  refine gl_aload_n hX dL_law_783 rfl rfl ?_
  refine gl_iload_n hX dL_law_784 rfl rfl ?_
  refine gl_iconst hX dL_law_785 k_1 ?_
  refine gl_iadd hX dL_law_786 ?_
  refine gl_sld hX (ix_in hx hi hL (c := 1) (k := 1) (by decide) (by decide)) dL_law_787 ?_
  refine gl_callC hX (c_X8_seed _ h1) mv_X8_seed wlm_741 kd_true_0 rfl (by decide) (by decide) hcell rfl rfl (Nat.le_of_ble_eq_true rfl) dL_law_788 ?_
  refine gl_aload_n hX dL_law_791 rfl rfl ?_
  refine gl_aload_n hX dL_law_792 rfl rfl ?_
  refine gl_iload_n hX dL_law_793 rfl rfl ?_
  refine gl_iconst hX dL_law_794 k_1 ?_
  refine gl_iadd hX dL_law_795 ?_
  refine gl_sld hX (ix_in hx hi hL (c := 1) (k := 1) (by decide) (by decide)) dL_law_796 ?_
  refine gl_callR hX (c_X9_seed _ h2) mv_X9_seed wlm_1273 kd_false_0 rfl (by decide) (by decide) hcell rfl rfl (Nat.le_of_ble_eq_true rfl) dL_law_797 ?_
  exact gl_icmp_eq (tgt := 1398) hX dL_law_800 (by decide) (fun _ => hk μ1 ν1 h3) (fun q => absurd rfl q)
set_option maxRecDepth 100000 in
set_option maxHeartbeats 4000000 in
theorem tl_then {l : Launch} {D E : DT} {X : XT} {Q : State → Prop} {cells slots : Nat} {sb sL : Nat} {sx : Nat → Int32} {S : Mem → Mem → Prop} {x3 : Int32} {i : Nat} (hS : Sim_then S) (hX : CxL l D E X sb sL sx cL_law) (hcell : cells ≤ 600000 ∧ slots ≤ 7302249) (hx : x3 = nI i) (hi : i + 6 ≤ sL) (hL : sL ≤ 3072) (hk : ∀ μ1 ν1, S μ1 ν1 → GL l D E X Q cells slots 1398 [some (.ref sb), some (.ref (D.1 0)), some (.ref (E.1 0)), some (.int x3)] [] μ1 ν1) : ∀ μ ν, S μ ν → GL l D E X Q cells slots 805 [some (.ref sb), some (.ref (D.1 0)), some (.ref (E.1 0)), some (.int x3)] [] μ ν := by
  intro μ ν hs
  obtain ⟨r, μ1, ν1, h1, h2, h3⟩ := hS (sx (ix (x3 + 1))) (sx (ix (x3 + 2))) μ ν hs
  refine gl_aload_n hX dL_law_805 rfl rfl ?_
  refine gl_aload_n hX dL_law_806 rfl rfl ?_
  refine gl_iload_n hX dL_law_807 rfl rfl ?_
  refine gl_iconst hX dL_law_808 k_1 ?_
  refine gl_iadd hX dL_law_809 ?_
  refine gl_sld hX (ix_in hx hi hL (c := 1) (k := 1) (by decide) (by decide)) dL_law_810 ?_
  refine gl_aload_n hX dL_law_811 rfl rfl ?_
  refine gl_iload_n hX dL_law_812 rfl rfl ?_
  refine gl_iconst hX dL_law_813 k_2 ?_
  refine gl_iadd hX dL_law_814 ?_
  refine gl_sld hX (ix_in hx hi hL (c := 2) (k := 2) (by decide) (by decide)) dL_law_815 ?_
  refine gl_callC hX (c_X8_then _ _ h1) mv_X8_then wlm_745 kd_true_0 rfl (by decide) (by decide) hcell rfl rfl (Nat.le_of_ble_eq_true rfl) dL_law_816 ?_
  refine gl_aload_n hX dL_law_819 rfl rfl ?_
  refine gl_aload_n hX dL_law_820 rfl rfl ?_
  refine gl_iload_n hX dL_law_821 rfl rfl ?_
  refine gl_iconst hX dL_law_822 k_1 ?_
  refine gl_iadd hX dL_law_823 ?_
  refine gl_sld hX (ix_in hx hi hL (c := 1) (k := 1) (by decide) (by decide)) dL_law_824 ?_
  refine gl_aload_n hX dL_law_825 rfl rfl ?_
  refine gl_iload_n hX dL_law_826 rfl rfl ?_
  refine gl_iconst hX dL_law_827 k_2 ?_
  refine gl_iadd hX dL_law_828 ?_
  refine gl_sld hX (ix_in hx hi hL (c := 2) (k := 2) (by decide) (by decide)) dL_law_829 ?_
  refine gl_callR hX (c_X9_then _ _ h2) mv_X9_then wlm_1277 kd_false_0 rfl (by decide) (by decide) hcell rfl rfl (Nat.le_of_ble_eq_true rfl) dL_law_830 ?_
  exact gl_icmp_eq (tgt := 1398) hX dL_law_833 (by decide) (fun _ => hk μ1 ν1 h3) (fun q => absurd rfl q)
set_option maxRecDepth 100000 in
set_option maxHeartbeats 4000000 in
theorem tl_first {l : Launch} {D E : DT} {X : XT} {Q : State → Prop} {cells slots : Nat} {sb sL : Nat} {sx : Nat → Int32} {S : Mem → Mem → Prop} {x3 : Int32} {i : Nat} (hS : Sim_first S) (hX : CxL l D E X sb sL sx cL_law) (hcell : cells ≤ 600000 ∧ slots ≤ 7302249) (hx : x3 = nI i) (hi : i + 6 ≤ sL) (hL : sL ≤ 3072) (hk : ∀ μ1 ν1, S μ1 ν1 → GL l D E X Q cells slots 1398 [some (.ref sb), some (.ref (D.1 0)), some (.ref (E.1 0)), some (.int x3)] [] μ1 ν1) : ∀ μ ν, S μ ν → GL l D E X Q cells slots 838 [some (.ref sb), some (.ref (D.1 0)), some (.ref (E.1 0)), some (.int x3)] [] μ ν := by
  intro μ ν hs
  obtain ⟨r, μ1, ν1, h1, h2, h3⟩ := hS (sx (ix (x3 + 1))) μ ν hs
  refine gl_aload_n hX dL_law_838 rfl rfl ?_
  refine gl_aload_n hX dL_law_839 rfl rfl ?_
  refine gl_iload_n hX dL_law_840 rfl rfl ?_
  refine gl_iconst hX dL_law_841 k_1 ?_
  refine gl_iadd hX dL_law_842 ?_
  refine gl_sld hX (ix_in hx hi hL (c := 1) (k := 1) (by decide) (by decide)) dL_law_843 ?_
  refine gl_callC hX (c_X8_first _ h1) mv_X8_first wlm_754 kd_true_0 rfl (by decide) (by decide) hcell rfl rfl (Nat.le_of_ble_eq_true rfl) dL_law_844 ?_
  refine gl_aload_n hX dL_law_847 rfl rfl ?_
  refine gl_aload_n hX dL_law_848 rfl rfl ?_
  refine gl_iload_n hX dL_law_849 rfl rfl ?_
  refine gl_iconst hX dL_law_850 k_1 ?_
  refine gl_iadd hX dL_law_851 ?_
  refine gl_sld hX (ix_in hx hi hL (c := 1) (k := 1) (by decide) (by decide)) dL_law_852 ?_
  refine gl_callR hX (c_X9_first _ h2) mv_X9_first wlm_1292 kd_false_0 rfl (by decide) (by decide) hcell rfl rfl (Nat.le_of_ble_eq_true rfl) dL_law_853 ?_
  exact gl_icmp_eq (tgt := 1398) hX dL_law_856 (by decide) (fun _ => hk μ1 ν1 h3) (fun q => absurd rfl q)
set_option maxRecDepth 100000 in
set_option maxHeartbeats 4000000 in
theorem tl_fewest {l : Launch} {D E : DT} {X : XT} {Q : State → Prop} {cells slots : Nat} {sb sL : Nat} {sx : Nat → Int32} {S : Mem → Mem → Prop} {x3 : Int32} {i : Nat} (hS : Sim_fewest S) (hX : CxL l D E X sb sL sx cL_law) (hcell : cells ≤ 600000 ∧ slots ≤ 7302249) (hx : x3 = nI i) (hi : i + 6 ≤ sL) (hL : sL ≤ 3072) (hk : ∀ μ1 ν1, S μ1 ν1 → GL l D E X Q cells slots 1398 [some (.ref sb), some (.ref (D.1 0)), some (.ref (E.1 0)), some (.int x3)] [] μ1 ν1) : ∀ μ ν, S μ ν → GL l D E X Q cells slots 861 [some (.ref sb), some (.ref (D.1 0)), some (.ref (E.1 0)), some (.int x3)] [] μ ν := by
  intro μ ν hs
  obtain ⟨r, μ1, ν1, h1, h2, h3⟩ := hS  μ ν hs
  refine gl_aload_n hX dL_law_861 rfl rfl ?_
  refine gl_callC hX (c_X8_fewest h1) mv_X8_fewest wlm_758 kd_true_0 rfl (by decide) (by decide) hcell rfl rfl (Nat.le_of_ble_eq_true rfl) dL_law_862 ?_
  refine gl_aload_n hX dL_law_865 rfl rfl ?_
  refine gl_callR hX (c_X9_fewest h2) mv_X9_fewest wlm_1297 kd_false_0 rfl (by decide) (by decide) hcell rfl rfl (Nat.le_of_ble_eq_true rfl) dL_law_866 ?_
  exact gl_icmp_eq (tgt := 1398) hX dL_law_869 (by decide) (fun _ => hk μ1 ν1 h3) (fun q => absurd rfl q)
set_option maxRecDepth 100000 in
set_option maxHeartbeats 4000000 in
theorem tl_way {l : Launch} {D E : DT} {X : XT} {Q : State → Prop} {cells slots : Nat} {sb sL : Nat} {sx : Nat → Int32} {S : Mem → Mem → Prop} {x3 : Int32} {i : Nat} (hS : Sim_way S) (hX : CxL l D E X sb sL sx cL_law) (hcell : cells ≤ 600000 ∧ slots ≤ 7302249) (hx : x3 = nI i) (hi : i + 6 ≤ sL) (hL : sL ≤ 3072) (hk : ∀ μ1 ν1, S μ1 ν1 → GL l D E X Q cells slots 1398 [some (.ref sb), some (.ref (D.1 0)), some (.ref (E.1 0)), some (.int x3)] [] μ1 ν1) : ∀ μ ν, S μ ν → GL l D E X Q cells slots 874 [some (.ref sb), some (.ref (D.1 0)), some (.ref (E.1 0)), some (.int x3)] [] μ ν := by
  intro μ ν hs
  obtain ⟨r, μ1, ν1, h1, h2, h3⟩ := hS (sx (ix (x3 + 1))) (sx (ix (x3 + 2))) μ ν hs
  refine gl_aload_n hX dL_law_874 rfl rfl ?_
  refine gl_aload_n hX dL_law_875 rfl rfl ?_
  refine gl_iload_n hX dL_law_876 rfl rfl ?_
  refine gl_iconst hX dL_law_877 k_1 ?_
  refine gl_iadd hX dL_law_878 ?_
  refine gl_sld hX (ix_in hx hi hL (c := 1) (k := 1) (by decide) (by decide)) dL_law_879 ?_
  refine gl_aload_n hX dL_law_880 rfl rfl ?_
  refine gl_iload_n hX dL_law_881 rfl rfl ?_
  refine gl_iconst hX dL_law_882 k_2 ?_
  refine gl_iadd hX dL_law_883 ?_
  refine gl_sld hX (ix_in hx hi hL (c := 2) (k := 2) (by decide) (by decide)) dL_law_884 ?_
  refine gl_callC hX (c_X8_way _ _ h1) mv_X8_way wlm_777 kd_true_0 rfl (by decide) (by decide) hcell rfl rfl (Nat.le_of_ble_eq_true rfl) dL_law_885 ?_
  refine gl_aload_n hX dL_law_888 rfl rfl ?_
  refine gl_aload_n hX dL_law_889 rfl rfl ?_
  refine gl_iload_n hX dL_law_890 rfl rfl ?_
  refine gl_iconst hX dL_law_891 k_1 ?_
  refine gl_iadd hX dL_law_892 ?_
  refine gl_sld hX (ix_in hx hi hL (c := 1) (k := 1) (by decide) (by decide)) dL_law_893 ?_
  refine gl_aload_n hX dL_law_894 rfl rfl ?_
  refine gl_iload_n hX dL_law_895 rfl rfl ?_
  refine gl_iconst hX dL_law_896 k_2 ?_
  refine gl_iadd hX dL_law_897 ?_
  refine gl_sld hX (ix_in hx hi hL (c := 2) (k := 2) (by decide) (by decide)) dL_law_898 ?_
  refine gl_callR hX (c_X9_way _ _ h2) mv_X9_way wlm_1309 kd_false_0 rfl (by decide) (by decide) hcell rfl rfl (Nat.le_of_ble_eq_true rfl) dL_law_899 ?_
  exact gl_icmp_eq (tgt := 1398) hX dL_law_902 (by decide) (fun _ => hk μ1 ν1 h3) (fun q => absurd rfl q)
set_option maxRecDepth 100000 in
set_option maxHeartbeats 4000000 in
theorem tl_cut {l : Launch} {D E : DT} {X : XT} {Q : State → Prop} {cells slots : Nat} {sb sL : Nat} {sx : Nat → Int32} {S : Mem → Mem → Prop} {x3 : Int32} {i : Nat} (hS : Sim_cut S) (hX : CxL l D E X sb sL sx cL_law) (hcell : cells ≤ 600000 ∧ slots ≤ 7302249) (hx : x3 = nI i) (hi : i + 6 ≤ sL) (hL : sL ≤ 3072) (hk : ∀ μ1 ν1, S μ1 ν1 → GL l D E X Q cells slots 1398 [some (.ref sb), some (.ref (D.1 0)), some (.ref (E.1 0)), some (.int x3)] [] μ1 ν1) : ∀ μ ν, S μ ν → GL l D E X Q cells slots 907 [some (.ref sb), some (.ref (D.1 0)), some (.ref (E.1 0)), some (.int x3)] [] μ ν := by
  intro μ ν hs
  obtain ⟨r, μ1, ν1, h1, h2, h3⟩ := hS (sx (ix (x3 + 1))) (sx (ix (x3 + 2))) (sx (ix (x3 + 3))) μ ν hs
  refine gl_aload_n hX dL_law_907 rfl rfl ?_
  refine gl_aload_n hX dL_law_908 rfl rfl ?_
  refine gl_iload_n hX dL_law_909 rfl rfl ?_
  refine gl_iconst hX dL_law_910 k_1 ?_
  refine gl_iadd hX dL_law_911 ?_
  refine gl_sld hX (ix_in hx hi hL (c := 1) (k := 1) (by decide) (by decide)) dL_law_912 ?_
  refine gl_aload_n hX dL_law_913 rfl rfl ?_
  refine gl_iload_n hX dL_law_914 rfl rfl ?_
  refine gl_iconst hX dL_law_915 k_2 ?_
  refine gl_iadd hX dL_law_916 ?_
  refine gl_sld hX (ix_in hx hi hL (c := 2) (k := 2) (by decide) (by decide)) dL_law_917 ?_
  refine gl_aload_n hX dL_law_918 rfl rfl ?_
  refine gl_iload_n hX dL_law_919 rfl rfl ?_
  refine gl_iconst hX dL_law_920 k_3 ?_
  refine gl_iadd hX dL_law_921 ?_
  refine gl_sld hX (ix_in hx hi hL (c := 3) (k := 3) (by decide) (by decide)) dL_law_922 ?_
  refine gl_callC hX (c_X8_cut _ _ _ h1) mv_X8_cut wlm_789 kd_true_0 rfl (by decide) (by decide) hcell rfl rfl (Nat.le_of_ble_eq_true rfl) dL_law_923 ?_
  refine gl_aload_n hX dL_law_926 rfl rfl ?_
  refine gl_aload_n hX dL_law_927 rfl rfl ?_
  refine gl_iload_n hX dL_law_928 rfl rfl ?_
  refine gl_iconst hX dL_law_929 k_1 ?_
  refine gl_iadd hX dL_law_930 ?_
  refine gl_sld hX (ix_in hx hi hL (c := 1) (k := 1) (by decide) (by decide)) dL_law_931 ?_
  refine gl_aload_n hX dL_law_932 rfl rfl ?_
  refine gl_iload_n hX dL_law_933 rfl rfl ?_
  refine gl_iconst hX dL_law_934 k_2 ?_
  refine gl_iadd hX dL_law_935 ?_
  refine gl_sld hX (ix_in hx hi hL (c := 2) (k := 2) (by decide) (by decide)) dL_law_936 ?_
  refine gl_aload_n hX dL_law_937 rfl rfl ?_
  refine gl_iload_n hX dL_law_938 rfl rfl ?_
  refine gl_iconst hX dL_law_939 k_3 ?_
  refine gl_iadd hX dL_law_940 ?_
  refine gl_sld hX (ix_in hx hi hL (c := 3) (k := 3) (by decide) (by decide)) dL_law_941 ?_
  refine gl_callR hX (c_X9_cut _ _ _ h2) mv_X9_cut wlm_1321 kd_false_0 rfl (by decide) (by decide) hcell rfl rfl (Nat.le_of_ble_eq_true rfl) dL_law_942 ?_
  exact gl_icmp_eq (tgt := 1398) hX dL_law_945 (by decide) (fun _ => hk μ1 ν1 h3) (fun q => absurd rfl q)
set_option maxRecDepth 100000 in
set_option maxHeartbeats 4000000 in
theorem tl_roams {l : Launch} {D E : DT} {X : XT} {Q : State → Prop} {cells slots : Nat} {sb sL : Nat} {sx : Nat → Int32} {S : Mem → Mem → Prop} {x3 : Int32} {i : Nat} (hS : Sim_roams S) (hX : CxL l D E X sb sL sx cL_law) (hcell : cells ≤ 600000 ∧ slots ≤ 7302249) (hx : x3 = nI i) (hi : i + 6 ≤ sL) (hL : sL ≤ 3072) (hk : ∀ μ1 ν1, S μ1 ν1 → GL l D E X Q cells slots 1398 [some (.ref sb), some (.ref (D.1 0)), some (.ref (E.1 0)), some (.int x3)] [] μ1 ν1) : ∀ μ ν, S μ ν → GL l D E X Q cells slots 950 [some (.ref sb), some (.ref (D.1 0)), some (.ref (E.1 0)), some (.int x3)] [] μ ν := by
  intro μ ν hs
  obtain ⟨r, μ1, ν1, h1, h2, h3⟩ := hS (sx (ix (x3 + 1))) μ ν hs
  refine gl_aload_n hX dL_law_950 rfl rfl ?_
  refine gl_aload_n hX dL_law_951 rfl rfl ?_
  refine gl_iload_n hX dL_law_952 rfl rfl ?_
  refine gl_iconst hX dL_law_953 k_1 ?_
  refine gl_iadd hX dL_law_954 ?_
  refine gl_sld hX (ix_in hx hi hL (c := 1) (k := 1) (by decide) (by decide)) dL_law_955 ?_
  refine gl_callC hX (c_X8_roams _ h1) mv_X8_roams wlm_808 kd_true_0 rfl (by decide) (by decide) hcell rfl rfl (Nat.le_of_ble_eq_true rfl) dL_law_956 ?_
  refine gl_aload_n hX dL_law_959 rfl rfl ?_
  refine gl_aload_n hX dL_law_960 rfl rfl ?_
  refine gl_iload_n hX dL_law_961 rfl rfl ?_
  refine gl_iconst hX dL_law_962 k_1 ?_
  refine gl_iadd hX dL_law_963 ?_
  refine gl_sld hX (ix_in hx hi hL (c := 1) (k := 1) (by decide) (by decide)) dL_law_964 ?_
  refine gl_callR hX (c_X9_roams _ h2) mv_X9_roams wlm_1332 kd_false_0 rfl (by decide) (by decide) hcell rfl rfl (Nat.le_of_ble_eq_true rfl) dL_law_965 ?_
  exact gl_icmp_eq (tgt := 1398) hX dL_law_968 (by decide) (fun _ => hk μ1 ν1 h3) (fun q => absurd rfl q)
set_option maxRecDepth 100000 in
set_option maxHeartbeats 4000000 in
theorem tl_odds {l : Launch} {D E : DT} {X : XT} {Q : State → Prop} {cells slots : Nat} {sb sL : Nat} {sx : Nat → Int32} {S : Mem → Mem → Prop} {x3 : Int32} {i : Nat} (hS : Sim_odds S) (hX : CxL l D E X sb sL sx cL_law) (hcell : cells ≤ 600000 ∧ slots ≤ 7302249) (hx : x3 = nI i) (hi : i + 6 ≤ sL) (hL : sL ≤ 3072) (hk : ∀ μ1 ν1, S μ1 ν1 → GL l D E X Q cells slots 1398 [some (.ref sb), some (.ref (D.1 0)), some (.ref (E.1 0)), some (.int x3)] [] μ1 ν1) : ∀ μ ν, S μ ν → GL l D E X Q cells slots 973 [some (.ref sb), some (.ref (D.1 0)), some (.ref (E.1 0)), some (.int x3)] [] μ ν := by
  intro μ ν hs
  obtain ⟨r, μ1, ν1, h1, h2, h3⟩ := hS (sx (ix (x3 + 1))) (sx (ix (x3 + 2))) μ ν hs
  refine gl_aload_n hX dL_law_973 rfl rfl ?_
  refine gl_aload_n hX dL_law_974 rfl rfl ?_
  refine gl_iload_n hX dL_law_975 rfl rfl ?_
  refine gl_iconst hX dL_law_976 k_1 ?_
  refine gl_iadd hX dL_law_977 ?_
  refine gl_sld hX (ix_in hx hi hL (c := 1) (k := 1) (by decide) (by decide)) dL_law_978 ?_
  refine gl_aload_n hX dL_law_979 rfl rfl ?_
  refine gl_iload_n hX dL_law_980 rfl rfl ?_
  refine gl_iconst hX dL_law_981 k_2 ?_
  refine gl_iadd hX dL_law_982 ?_
  refine gl_sld hX (ix_in hx hi hL (c := 2) (k := 2) (by decide) (by decide)) dL_law_983 ?_
  refine gl_callC hX (c_X8_odds _ _ h1) mv_X8_odds wlm_813 kd_true_0 rfl (by decide) (by decide) hcell rfl rfl (Nat.le_of_ble_eq_true rfl) dL_law_984 ?_
  refine gl_aload_n hX dL_law_987 rfl rfl ?_
  refine gl_aload_n hX dL_law_988 rfl rfl ?_
  refine gl_iload_n hX dL_law_989 rfl rfl ?_
  refine gl_iconst hX dL_law_990 k_1 ?_
  refine gl_iadd hX dL_law_991 ?_
  refine gl_sld hX (ix_in hx hi hL (c := 1) (k := 1) (by decide) (by decide)) dL_law_992 ?_
  refine gl_aload_n hX dL_law_993 rfl rfl ?_
  refine gl_iload_n hX dL_law_994 rfl rfl ?_
  refine gl_iconst hX dL_law_995 k_2 ?_
  refine gl_iadd hX dL_law_996 ?_
  refine gl_sld hX (ix_in hx hi hL (c := 2) (k := 2) (by decide) (by decide)) dL_law_997 ?_
  refine gl_callR hX (c_X9_odds _ _ h2) mv_X9_odds wlm_1336 kd_false_0 rfl (by decide) (by decide) hcell rfl rfl (Nat.le_of_ble_eq_true rfl) dL_law_998 ?_
  exact gl_icmp_eq (tgt := 1398) hX dL_law_1001 (by decide) (fun _ => hk μ1 ν1 h3) (fun q => absurd rfl q)
set_option maxRecDepth 100000 in
set_option maxHeartbeats 4000000 in
theorem tl_fits {l : Launch} {D E : DT} {X : XT} {Q : State → Prop} {cells slots : Nat} {sb sL : Nat} {sx : Nat → Int32} {S : Mem → Mem → Prop} {x3 : Int32} {i : Nat} (hS : Sim_fits S) (hX : CxL l D E X sb sL sx cL_law) (hcell : cells ≤ 600000 ∧ slots ≤ 7302249) (hx : x3 = nI i) (hi : i + 6 ≤ sL) (hL : sL ≤ 3072) (hk : ∀ μ1 ν1, S μ1 ν1 → GL l D E X Q cells slots 1398 [some (.ref sb), some (.ref (D.1 0)), some (.ref (E.1 0)), some (.int x3)] [] μ1 ν1) : ∀ μ ν, S μ ν → GL l D E X Q cells slots 1006 [some (.ref sb), some (.ref (D.1 0)), some (.ref (E.1 0)), some (.int x3)] [] μ ν := by
  intro μ ν hs
  obtain ⟨r, μ1, ν1, h1, h2, h3⟩ := hS (sx (ix (x3 + 1))) μ ν hs
  refine gl_aload_n hX dL_law_1006 rfl rfl ?_
  refine gl_aload_n hX dL_law_1007 rfl rfl ?_
  refine gl_iload_n hX dL_law_1008 rfl rfl ?_
  refine gl_iconst hX dL_law_1009 k_1 ?_
  refine gl_iadd hX dL_law_1010 ?_
  refine gl_sld hX (ix_in hx hi hL (c := 1) (k := 1) (by decide) (by decide)) dL_law_1011 ?_
  refine gl_callC hX (c_X8_fits _ h1) mv_X8_fits wlm_825 kd_true_0 rfl (by decide) (by decide) hcell rfl rfl (Nat.le_of_ble_eq_true rfl) dL_law_1012 ?_
  refine gl_aload_n hX dL_law_1015 rfl rfl ?_
  refine gl_aload_n hX dL_law_1016 rfl rfl ?_
  refine gl_iload_n hX dL_law_1017 rfl rfl ?_
  refine gl_iconst hX dL_law_1018 k_1 ?_
  refine gl_iadd hX dL_law_1019 ?_
  refine gl_sld hX (ix_in hx hi hL (c := 1) (k := 1) (by decide) (by decide)) dL_law_1020 ?_
  refine gl_callR hX (c_X9_fits _ h2) mv_X9_fits wlm_1340 kd_false_0 rfl (by decide) (by decide) hcell rfl rfl (Nat.le_of_ble_eq_true rfl) dL_law_1021 ?_
  exact gl_icmp_eq (tgt := 1398) hX dL_law_1024 (by decide) (fun _ => hk μ1 ν1 h3) (fun q => absurd rfl q)
set_option maxRecDepth 100000 in
set_option maxHeartbeats 4000000 in
theorem tl_voice {l : Launch} {D E : DT} {X : XT} {Q : State → Prop} {cells slots : Nat} {sb sL : Nat} {sx : Nat → Int32} {S : Mem → Mem → Prop} {x3 : Int32} {i : Nat} (hS : Sim_voice S) (hX : CxL l D E X sb sL sx cL_law) (hcell : cells ≤ 600000 ∧ slots ≤ 7302249) (hx : x3 = nI i) (hi : i + 6 ≤ sL) (hL : sL ≤ 3072) (hk : ∀ μ1 ν1, S μ1 ν1 → GL l D E X Q cells slots 1398 [some (.ref sb), some (.ref (D.1 0)), some (.ref (E.1 0)), some (.int x3)] [] μ1 ν1) : ∀ μ ν, S μ ν → GL l D E X Q cells slots 1029 [some (.ref sb), some (.ref (D.1 0)), some (.ref (E.1 0)), some (.int x3)] [] μ ν := by
  intro μ ν hs
  obtain ⟨r, μ1, ν1, h1, h2, h3⟩ := hS (sx (ix (x3 + 1))) (sx (ix (x3 + 2))) (sx (ix (x3 + 3))) μ ν hs
  refine gl_aload_n hX dL_law_1029 rfl rfl ?_
  refine gl_aload_n hX dL_law_1030 rfl rfl ?_
  refine gl_iload_n hX dL_law_1031 rfl rfl ?_
  refine gl_iconst hX dL_law_1032 k_1 ?_
  refine gl_iadd hX dL_law_1033 ?_
  refine gl_sld hX (ix_in hx hi hL (c := 1) (k := 1) (by decide) (by decide)) dL_law_1034 ?_
  refine gl_aload_n hX dL_law_1035 rfl rfl ?_
  refine gl_iload_n hX dL_law_1036 rfl rfl ?_
  refine gl_iconst hX dL_law_1037 k_2 ?_
  refine gl_iadd hX dL_law_1038 ?_
  refine gl_sld hX (ix_in hx hi hL (c := 2) (k := 2) (by decide) (by decide)) dL_law_1039 ?_
  refine gl_aload_n hX dL_law_1040 rfl rfl ?_
  refine gl_iload_n hX dL_law_1041 rfl rfl ?_
  refine gl_iconst hX dL_law_1042 k_3 ?_
  refine gl_iadd hX dL_law_1043 ?_
  refine gl_sld hX (ix_in hx hi hL (c := 3) (k := 3) (by decide) (by decide)) dL_law_1044 ?_
  refine gl_callC hX (c_X8_voice _ _ _ h1) mv_X8_voice wlm_841 kd_true_0 rfl (by decide) (by decide) hcell rfl rfl (Nat.le_of_ble_eq_true rfl) dL_law_1045 ?_
  refine gl_aload_n hX dL_law_1048 rfl rfl ?_
  refine gl_aload_n hX dL_law_1049 rfl rfl ?_
  refine gl_iload_n hX dL_law_1050 rfl rfl ?_
  refine gl_iconst hX dL_law_1051 k_1 ?_
  refine gl_iadd hX dL_law_1052 ?_
  refine gl_sld hX (ix_in hx hi hL (c := 1) (k := 1) (by decide) (by decide)) dL_law_1053 ?_
  refine gl_aload_n hX dL_law_1054 rfl rfl ?_
  refine gl_iload_n hX dL_law_1055 rfl rfl ?_
  refine gl_iconst hX dL_law_1056 k_2 ?_
  refine gl_iadd hX dL_law_1057 ?_
  refine gl_sld hX (ix_in hx hi hL (c := 2) (k := 2) (by decide) (by decide)) dL_law_1058 ?_
  refine gl_aload_n hX dL_law_1059 rfl rfl ?_
  refine gl_iload_n hX dL_law_1060 rfl rfl ?_
  refine gl_iconst hX dL_law_1061 k_3 ?_
  refine gl_iadd hX dL_law_1062 ?_
  refine gl_sld hX (ix_in hx hi hL (c := 3) (k := 3) (by decide) (by decide)) dL_law_1063 ?_
  refine gl_callR hX (c_X9_voice _ _ _ h2) mv_X9_voice wlm_1355 kd_false_0 rfl (by decide) (by decide) hcell rfl rfl (Nat.le_of_ble_eq_true rfl) dL_law_1064 ?_
  exact gl_icmp_eq (tgt := 1398) hX dL_law_1067 (by decide) (fun _ => hk μ1 ν1 h3) (fun q => absurd rfl q)
set_option maxRecDepth 100000 in
set_option maxHeartbeats 4000000 in
theorem tl_body {l : Launch} {D E : DT} {X : XT} {Q : State → Prop} {cells slots : Nat} {sb sL : Nat} {sx : Nat → Int32} {S : Mem → Mem → Prop} {x3 : Int32} {i : Nat} (hS : Sim_body S) (hX : CxL l D E X sb sL sx cL_law) (hcell : cells ≤ 600000 ∧ slots ≤ 7302249) (hx : x3 = nI i) (hi : i + 6 ≤ sL) (hL : sL ≤ 3072) (hk : ∀ μ1 ν1, S μ1 ν1 → GL l D E X Q cells slots 1398 [some (.ref sb), some (.ref (D.1 0)), some (.ref (E.1 0)), some (.int x3)] [] μ1 ν1) : ∀ μ ν, S μ ν → GL l D E X Q cells slots 1072 [some (.ref sb), some (.ref (D.1 0)), some (.ref (E.1 0)), some (.int x3)] [] μ ν := by
  intro μ ν hs
  obtain ⟨r, μ1, ν1, h1, h2, h3⟩ := hS (sx (ix (x3 + 1))) μ ν hs
  refine gl_aload_n hX dL_law_1072 rfl rfl ?_
  refine gl_aload_n hX dL_law_1073 rfl rfl ?_
  refine gl_iload_n hX dL_law_1074 rfl rfl ?_
  refine gl_iconst hX dL_law_1075 k_1 ?_
  refine gl_iadd hX dL_law_1076 ?_
  refine gl_sld hX (ix_in hx hi hL (c := 1) (k := 1) (by decide) (by decide)) dL_law_1077 ?_
  refine gl_callC hX (c_X8_body _ h1) mv_X8_body wlm_868 kd_true_0 rfl (by decide) (by decide) hcell rfl rfl (Nat.le_of_ble_eq_true rfl) dL_law_1078 ?_
  refine gl_aload_n hX dL_law_1081 rfl rfl ?_
  refine gl_aload_n hX dL_law_1082 rfl rfl ?_
  refine gl_iload_n hX dL_law_1083 rfl rfl ?_
  refine gl_iconst hX dL_law_1084 k_1 ?_
  refine gl_iadd hX dL_law_1085 ?_
  refine gl_sld hX (ix_in hx hi hL (c := 1) (k := 1) (by decide) (by decide)) dL_law_1086 ?_
  refine gl_callR hX (c_X9_body _ h2) mv_X9_body wlm_1404 kd_false_0 rfl (by decide) (by decide) hcell rfl rfl (Nat.le_of_ble_eq_true rfl) dL_law_1087 ?_
  exact gl_icmp_eq (tgt := 1398) hX dL_law_1090 (by decide) (fun _ => hk μ1 ν1 h3) (fun q => absurd rfl q)
set_option maxRecDepth 100000 in
set_option maxHeartbeats 4000000 in
theorem tl_sheet {l : Launch} {D E : DT} {X : XT} {Q : State → Prop} {cells slots : Nat} {sb sL : Nat} {sx : Nat → Int32} {S : Mem → Mem → Prop} {x3 : Int32} {i : Nat} (hS : Sim_sheet S) (hX : CxL l D E X sb sL sx cL_law) (hcell : cells ≤ 600000 ∧ slots ≤ 7302249) (hx : x3 = nI i) (hi : i + 6 ≤ sL) (hL : sL ≤ 3072) (hk : ∀ μ1 ν1, S μ1 ν1 → GL l D E X Q cells slots 1398 [some (.ref sb), some (.ref (D.1 0)), some (.ref (E.1 0)), some (.int x3)] [] μ1 ν1) : ∀ μ ν, S μ ν → GL l D E X Q cells slots 1095 [some (.ref sb), some (.ref (D.1 0)), some (.ref (E.1 0)), some (.int x3)] [] μ ν := by
  intro μ ν hs
  obtain ⟨r, μ1, ν1, h1, h2, h3⟩ := hS (sx (ix (x3 + 1))) (sx (ix (x3 + 2))) (sx (ix (x3 + 3))) μ ν hs
  refine gl_aload_n hX dL_law_1095 rfl rfl ?_
  refine gl_aload_n hX dL_law_1096 rfl rfl ?_
  refine gl_iload_n hX dL_law_1097 rfl rfl ?_
  refine gl_iconst hX dL_law_1098 k_1 ?_
  refine gl_iadd hX dL_law_1099 ?_
  refine gl_sld hX (ix_in hx hi hL (c := 1) (k := 1) (by decide) (by decide)) dL_law_1100 ?_
  refine gl_aload_n hX dL_law_1101 rfl rfl ?_
  refine gl_iload_n hX dL_law_1102 rfl rfl ?_
  refine gl_iconst hX dL_law_1103 k_2 ?_
  refine gl_iadd hX dL_law_1104 ?_
  refine gl_sld hX (ix_in hx hi hL (c := 2) (k := 2) (by decide) (by decide)) dL_law_1105 ?_
  refine gl_aload_n hX dL_law_1106 rfl rfl ?_
  refine gl_iload_n hX dL_law_1107 rfl rfl ?_
  refine gl_iconst hX dL_law_1108 k_3 ?_
  refine gl_iadd hX dL_law_1109 ?_
  refine gl_sld hX (ix_in hx hi hL (c := 3) (k := 3) (by decide) (by decide)) dL_law_1110 ?_
  refine gl_callC hX (c_X8_sheet _ _ _ h1) mv_X8_sheet wlm_872 kd_true_0 rfl (by decide) (by decide) hcell rfl rfl (Nat.le_of_ble_eq_true rfl) dL_law_1111 ?_
  refine gl_aload_n hX dL_law_1114 rfl rfl ?_
  refine gl_aload_n hX dL_law_1115 rfl rfl ?_
  refine gl_iload_n hX dL_law_1116 rfl rfl ?_
  refine gl_iconst hX dL_law_1117 k_1 ?_
  refine gl_iadd hX dL_law_1118 ?_
  refine gl_sld hX (ix_in hx hi hL (c := 1) (k := 1) (by decide) (by decide)) dL_law_1119 ?_
  refine gl_aload_n hX dL_law_1120 rfl rfl ?_
  refine gl_iload_n hX dL_law_1121 rfl rfl ?_
  refine gl_iconst hX dL_law_1122 k_2 ?_
  refine gl_iadd hX dL_law_1123 ?_
  refine gl_sld hX (ix_in hx hi hL (c := 2) (k := 2) (by decide) (by decide)) dL_law_1124 ?_
  refine gl_aload_n hX dL_law_1125 rfl rfl ?_
  refine gl_iload_n hX dL_law_1126 rfl rfl ?_
  refine gl_iconst hX dL_law_1127 k_3 ?_
  refine gl_iadd hX dL_law_1128 ?_
  refine gl_sld hX (ix_in hx hi hL (c := 3) (k := 3) (by decide) (by decide)) dL_law_1129 ?_
  refine gl_callR hX (c_X9_sheet _ _ _ h2) mv_X9_sheet wlm_1408 kd_false_0 rfl (by decide) (by decide) hcell rfl rfl (Nat.le_of_ble_eq_true rfl) dL_law_1130 ?_
  exact gl_icmp_eq (tgt := 1398) hX dL_law_1133 (by decide) (fun _ => hk μ1 ν1 h3) (fun q => absurd rfl q)
set_option maxRecDepth 100000 in
set_option maxHeartbeats 4000000 in
theorem tl_put {l : Launch} {D E : DT} {X : XT} {Q : State → Prop} {cells slots : Nat} {sb sL : Nat} {sx : Nat → Int32} {S : Mem → Mem → Prop} {x3 : Int32} {i : Nat} (hS : Sim_put S) (hX : CxL l D E X sb sL sx cL_law) (hcell : cells ≤ 600000 ∧ slots ≤ 7302249) (hx : x3 = nI i) (hi : i + 6 ≤ sL) (hL : sL ≤ 3072) (hk : ∀ μ1 ν1, S μ1 ν1 → GL l D E X Q cells slots 1398 [some (.ref sb), some (.ref (D.1 0)), some (.ref (E.1 0)), some (.int x3)] [] μ1 ν1) : ∀ μ ν, S μ ν → GL l D E X Q cells slots 1138 [some (.ref sb), some (.ref (D.1 0)), some (.ref (E.1 0)), some (.int x3)] [] μ ν := by
  intro μ ν hs
  obtain ⟨r, μ1, ν1, h1, h2, h3⟩ := hS (sx (ix (x3 + 1))) (sx (ix (x3 + 2))) (sx (ix (x3 + 3))) μ ν hs
  refine gl_aload_n hX dL_law_1138 rfl rfl ?_
  refine gl_aload_n hX dL_law_1139 rfl rfl ?_
  refine gl_iload_n hX dL_law_1140 rfl rfl ?_
  refine gl_iconst hX dL_law_1141 k_1 ?_
  refine gl_iadd hX dL_law_1142 ?_
  refine gl_sld hX (ix_in hx hi hL (c := 1) (k := 1) (by decide) (by decide)) dL_law_1143 ?_
  refine gl_aload_n hX dL_law_1144 rfl rfl ?_
  refine gl_iload_n hX dL_law_1145 rfl rfl ?_
  refine gl_iconst hX dL_law_1146 k_2 ?_
  refine gl_iadd hX dL_law_1147 ?_
  refine gl_sld hX (ix_in hx hi hL (c := 2) (k := 2) (by decide) (by decide)) dL_law_1148 ?_
  refine gl_aload_n hX dL_law_1149 rfl rfl ?_
  refine gl_iload_n hX dL_law_1150 rfl rfl ?_
  refine gl_iconst hX dL_law_1151 k_3 ?_
  refine gl_iadd hX dL_law_1152 ?_
  refine gl_sld hX (ix_in hx hi hL (c := 3) (k := 3) (by decide) (by decide)) dL_law_1153 ?_
  refine gl_callC hX (c_X8_put _ _ _ h1) mv_X8_put wlm_883 kd_true_0 rfl (by decide) (by decide) hcell rfl rfl (Nat.le_of_ble_eq_true rfl) dL_law_1154 ?_
  refine gl_aload_n hX dL_law_1157 rfl rfl ?_
  refine gl_aload_n hX dL_law_1158 rfl rfl ?_
  refine gl_iload_n hX dL_law_1159 rfl rfl ?_
  refine gl_iconst hX dL_law_1160 k_1 ?_
  refine gl_iadd hX dL_law_1161 ?_
  refine gl_sld hX (ix_in hx hi hL (c := 1) (k := 1) (by decide) (by decide)) dL_law_1162 ?_
  refine gl_aload_n hX dL_law_1163 rfl rfl ?_
  refine gl_iload_n hX dL_law_1164 rfl rfl ?_
  refine gl_iconst hX dL_law_1165 k_2 ?_
  refine gl_iadd hX dL_law_1166 ?_
  refine gl_sld hX (ix_in hx hi hL (c := 2) (k := 2) (by decide) (by decide)) dL_law_1167 ?_
  refine gl_aload_n hX dL_law_1168 rfl rfl ?_
  refine gl_iload_n hX dL_law_1169 rfl rfl ?_
  refine gl_iconst hX dL_law_1170 k_3 ?_
  refine gl_iadd hX dL_law_1171 ?_
  refine gl_sld hX (ix_in hx hi hL (c := 3) (k := 3) (by decide) (by decide)) dL_law_1172 ?_
  refine gl_callR hX (c_X9_put _ _ _ h2) mv_X9_put wlm_1412 kd_false_0 rfl (by decide) (by decide) hcell rfl rfl (Nat.le_of_ble_eq_true rfl) dL_law_1173 ?_
  exact gl_icmp_eq (tgt := 1398) hX dL_law_1176 (by decide) (fun _ => hk μ1 ν1 h3) (fun q => absurd rfl q)
set_option maxRecDepth 100000 in
set_option maxHeartbeats 4000000 in
theorem tl_move {l : Launch} {D E : DT} {X : XT} {Q : State → Prop} {cells slots : Nat} {sb sL : Nat} {sx : Nat → Int32} {S : Mem → Mem → Prop} {x3 : Int32} {i : Nat} (hS : Sim_move S) (hX : CxL l D E X sb sL sx cL_law) (hcell : cells ≤ 600000 ∧ slots ≤ 7302249) (hx : x3 = nI i) (hi : i + 6 ≤ sL) (hL : sL ≤ 3072) (hk : ∀ μ1 ν1, S μ1 ν1 → GL l D E X Q cells slots 1398 [some (.ref sb), some (.ref (D.1 0)), some (.ref (E.1 0)), some (.int x3)] [] μ1 ν1) : ∀ μ ν, S μ ν → GL l D E X Q cells slots 1181 [some (.ref sb), some (.ref (D.1 0)), some (.ref (E.1 0)), some (.int x3)] [] μ ν := by
  intro μ ν hs
  obtain ⟨r, μ1, ν1, h1, h2, h3⟩ := hS (sx (ix (x3 + 1))) (sx (ix (x3 + 2))) (sx (ix (x3 + 3))) (sx (ix (x3 + 4))) (sx (ix (x3 + 5))) μ ν hs
  refine gl_aload_n hX dL_law_1181 rfl rfl ?_
  refine gl_aload_n hX dL_law_1182 rfl rfl ?_
  refine gl_iload_n hX dL_law_1183 rfl rfl ?_
  refine gl_iconst hX dL_law_1184 k_1 ?_
  refine gl_iadd hX dL_law_1185 ?_
  refine gl_sld hX (ix_in hx hi hL (c := 1) (k := 1) (by decide) (by decide)) dL_law_1186 ?_
  refine gl_aload_n hX dL_law_1187 rfl rfl ?_
  refine gl_iload_n hX dL_law_1188 rfl rfl ?_
  refine gl_iconst hX dL_law_1189 k_2 ?_
  refine gl_iadd hX dL_law_1190 ?_
  refine gl_sld hX (ix_in hx hi hL (c := 2) (k := 2) (by decide) (by decide)) dL_law_1191 ?_
  refine gl_aload_n hX dL_law_1192 rfl rfl ?_
  refine gl_iload_n hX dL_law_1193 rfl rfl ?_
  refine gl_iconst hX dL_law_1194 k_3 ?_
  refine gl_iadd hX dL_law_1195 ?_
  refine gl_sld hX (ix_in hx hi hL (c := 3) (k := 3) (by decide) (by decide)) dL_law_1196 ?_
  refine gl_aload_n hX dL_law_1197 rfl rfl ?_
  refine gl_iload_n hX dL_law_1198 rfl rfl ?_
  refine gl_iconst hX dL_law_1199 k_4 ?_
  refine gl_iadd hX dL_law_1200 ?_
  refine gl_sld hX (ix_in hx hi hL (c := 4) (k := 4) (by decide) (by decide)) dL_law_1201 ?_
  refine gl_aload_n hX dL_law_1202 rfl rfl ?_
  refine gl_iload_n hX dL_law_1203 rfl rfl ?_
  refine gl_iconst hX dL_law_1204 k_5 ?_
  refine gl_iadd hX dL_law_1205 ?_
  refine gl_sld hX (ix_in hx hi hL (c := 5) (k := 5) (by decide) (by decide)) dL_law_1206 ?_
  refine gl_callC hX (c_X8_move _ _ _ _ _ h1) mv_X8_move wlm_891 kd_true_0 rfl (by decide) (by decide) hcell rfl rfl (Nat.le_of_ble_eq_true rfl) dL_law_1207 ?_
  refine gl_aload_n hX dL_law_1210 rfl rfl ?_
  refine gl_aload_n hX dL_law_1211 rfl rfl ?_
  refine gl_iload_n hX dL_law_1212 rfl rfl ?_
  refine gl_iconst hX dL_law_1213 k_1 ?_
  refine gl_iadd hX dL_law_1214 ?_
  refine gl_sld hX (ix_in hx hi hL (c := 1) (k := 1) (by decide) (by decide)) dL_law_1215 ?_
  refine gl_aload_n hX dL_law_1216 rfl rfl ?_
  refine gl_iload_n hX dL_law_1217 rfl rfl ?_
  refine gl_iconst hX dL_law_1218 k_2 ?_
  refine gl_iadd hX dL_law_1219 ?_
  refine gl_sld hX (ix_in hx hi hL (c := 2) (k := 2) (by decide) (by decide)) dL_law_1220 ?_
  refine gl_aload_n hX dL_law_1221 rfl rfl ?_
  refine gl_iload_n hX dL_law_1222 rfl rfl ?_
  refine gl_iconst hX dL_law_1223 k_3 ?_
  refine gl_iadd hX dL_law_1224 ?_
  refine gl_sld hX (ix_in hx hi hL (c := 3) (k := 3) (by decide) (by decide)) dL_law_1225 ?_
  refine gl_aload_n hX dL_law_1226 rfl rfl ?_
  refine gl_iload_n hX dL_law_1227 rfl rfl ?_
  refine gl_iconst hX dL_law_1228 k_4 ?_
  refine gl_iadd hX dL_law_1229 ?_
  refine gl_sld hX (ix_in hx hi hL (c := 4) (k := 4) (by decide) (by decide)) dL_law_1230 ?_
  refine gl_aload_n hX dL_law_1231 rfl rfl ?_
  refine gl_iload_n hX dL_law_1232 rfl rfl ?_
  refine gl_iconst hX dL_law_1233 k_5 ?_
  refine gl_iadd hX dL_law_1234 ?_
  refine gl_sld hX (ix_in hx hi hL (c := 5) (k := 5) (by decide) (by decide)) dL_law_1235 ?_
  refine gl_callR hX (c_X9_move _ _ _ _ _ h2) mv_X9_move wlm_1416 kd_false_0 rfl (by decide) (by decide) hcell rfl rfl (Nat.le_of_ble_eq_true rfl) dL_law_1236 ?_
  exact gl_icmp_eq (tgt := 1398) hX dL_law_1239 (by decide) (fun _ => hk μ1 ν1 h3) (fun q => absurd rfl q)
set_option maxRecDepth 100000 in
set_option maxHeartbeats 4000000 in
theorem tl_holds {l : Launch} {D E : DT} {X : XT} {Q : State → Prop} {cells slots : Nat} {sb sL : Nat} {sx : Nat → Int32} {S : Mem → Mem → Prop} {x3 : Int32} {i : Nat} (hS : Sim_holds S) (hX : CxL l D E X sb sL sx cL_law) (hcell : cells ≤ 600000 ∧ slots ≤ 7302249) (hx : x3 = nI i) (hi : i + 6 ≤ sL) (hL : sL ≤ 3072) (hk : ∀ μ1 ν1, S μ1 ν1 → GL l D E X Q cells slots 1398 [some (.ref sb), some (.ref (D.1 0)), some (.ref (E.1 0)), some (.int x3)] [] μ1 ν1) : ∀ μ ν, S μ ν → GL l D E X Q cells slots 1244 [some (.ref sb), some (.ref (D.1 0)), some (.ref (E.1 0)), some (.int x3)] [] μ ν := by
  intro μ ν hs
  obtain ⟨r, μ1, ν1, h1, h2, h3⟩ := hS (sx (ix (x3 + 1))) μ ν hs
  refine gl_aload_n hX dL_law_1244 rfl rfl ?_
  refine gl_aload_n hX dL_law_1245 rfl rfl ?_
  refine gl_iload_n hX dL_law_1246 rfl rfl ?_
  refine gl_iconst hX dL_law_1247 k_1 ?_
  refine gl_iadd hX dL_law_1248 ?_
  refine gl_sld hX (ix_in hx hi hL (c := 1) (k := 1) (by decide) (by decide)) dL_law_1249 ?_
  refine gl_callC hX (c_X8_holds _ h1) mv_X8_holds wlm_900 kd_true_0 rfl (by decide) (by decide) hcell rfl rfl (Nat.le_of_ble_eq_true rfl) dL_law_1250 ?_
  refine gl_aload_n hX dL_law_1253 rfl rfl ?_
  refine gl_aload_n hX dL_law_1254 rfl rfl ?_
  refine gl_iload_n hX dL_law_1255 rfl rfl ?_
  refine gl_iconst hX dL_law_1256 k_1 ?_
  refine gl_iadd hX dL_law_1257 ?_
  refine gl_sld hX (ix_in hx hi hL (c := 1) (k := 1) (by decide) (by decide)) dL_law_1258 ?_
  refine gl_callR hX (c_X9_holds _ h2) mv_X9_holds wlm_1424 kd_false_0 rfl (by decide) (by decide) hcell rfl rfl (Nat.le_of_ble_eq_true rfl) dL_law_1259 ?_
  exact gl_icmp_eq (tgt := 1398) hX dL_law_1262 (by decide) (fun _ => hk μ1 ν1 h3) (fun q => absurd rfl q)
set_option maxRecDepth 100000 in
set_option maxHeartbeats 4000000 in
theorem tl_judge {l : Launch} {D E : DT} {X : XT} {Q : State → Prop} {cells slots : Nat} {sb sL : Nat} {sx : Nat → Int32} {S : Mem → Mem → Prop} {x3 : Int32} {i : Nat} (hS : Sim_judge S) (hX : CxL l D E X sb sL sx cL_law) (hcell : cells ≤ 600000 ∧ slots ≤ 7302249) (hx : x3 = nI i) (hi : i + 6 ≤ sL) (hL : sL ≤ 3072) (hk : ∀ μ1 ν1, S μ1 ν1 → GL l D E X Q cells slots 1398 [some (.ref sb), some (.ref (D.1 0)), some (.ref (E.1 0)), some (.int x3)] [] μ1 ν1) : ∀ μ ν, S μ ν → GL l D E X Q cells slots 1267 [some (.ref sb), some (.ref (D.1 0)), some (.ref (E.1 0)), some (.int x3)] [] μ ν := by
  intro μ ν hs
  obtain ⟨r, μ1, ν1, h1, h2, h3⟩ := hS (sx (ix (x3 + 1))) μ ν hs
  refine gl_aload_n hX dL_law_1267 rfl rfl ?_
  refine gl_aload_n hX dL_law_1268 rfl rfl ?_
  refine gl_iload_n hX dL_law_1269 rfl rfl ?_
  refine gl_iconst hX dL_law_1270 k_1 ?_
  refine gl_iadd hX dL_law_1271 ?_
  refine gl_sld hX (ix_in hx hi hL (c := 1) (k := 1) (by decide) (by decide)) dL_law_1272 ?_
  refine gl_callC hX (c_X8_judge _ h1) mv_X8_judge wlm_909 kd_true_0 rfl (by decide) (by decide) hcell rfl rfl (Nat.le_of_ble_eq_true rfl) dL_law_1273 ?_
  refine gl_aload_n hX dL_law_1276 rfl rfl ?_
  refine gl_aload_n hX dL_law_1277 rfl rfl ?_
  refine gl_iload_n hX dL_law_1278 rfl rfl ?_
  refine gl_iconst hX dL_law_1279 k_1 ?_
  refine gl_iadd hX dL_law_1280 ?_
  refine gl_sld hX (ix_in hx hi hL (c := 1) (k := 1) (by decide) (by decide)) dL_law_1281 ?_
  refine gl_callR hX (c_X9_judge _ h2) mv_X9_judge wlm_1428 kd_false_0 rfl (by decide) (by decide) hcell rfl rfl (Nat.le_of_ble_eq_true rfl) dL_law_1282 ?_
  exact gl_icmp_eq (tgt := 1398) hX dL_law_1285 (by decide) (fun _ => hk μ1 ν1 h3) (fun q => absurd rfl q)
set_option maxRecDepth 100000 in
set_option maxHeartbeats 4000000 in
theorem tl_image {l : Launch} {D E : DT} {X : XT} {Q : State → Prop} {cells slots : Nat} {sb sL : Nat} {sx : Nat → Int32} {S : Mem → Mem → Prop} {x3 : Int32} {i : Nat} (hS : Sim_image S) (hX : CxL l D E X sb sL sx cL_law) (hcell : cells ≤ 600000 ∧ slots ≤ 7302249) (hx : x3 = nI i) (hi : i + 6 ≤ sL) (hL : sL ≤ 3072) (hk : ∀ μ1 ν1, S μ1 ν1 → GL l D E X Q cells slots 1398 [some (.ref sb), some (.ref (D.1 0)), some (.ref (E.1 0)), some (.int x3)] [] μ1 ν1) : ∀ μ ν, S μ ν → GL l D E X Q cells slots 1290 [some (.ref sb), some (.ref (D.1 0)), some (.ref (E.1 0)), some (.int x3)] [] μ ν := by
  intro μ ν hs
  obtain ⟨r, μ1, ν1, h1, h2, h3⟩ := hS  μ ν hs
  refine gl_aload_n hX dL_law_1290 rfl rfl ?_
  refine gl_callC hX (c_X8_image h1) mv_X8_image wlm_918 kd_true_0 rfl (by decide) (by decide) hcell rfl rfl (Nat.le_of_ble_eq_true rfl) dL_law_1291 ?_
  refine gl_aload_n hX dL_law_1294 rfl rfl ?_
  refine gl_callR hX (c_X9_image h2) mv_X9_image wlm_1432 kd_false_0 rfl (by decide) (by decide) hcell rfl rfl (Nat.le_of_ble_eq_true rfl) dL_law_1295 ?_
  exact gl_icmp_eq (tgt := 1398) hX dL_law_1298 (by decide) (fun _ => hk μ1 ν1 h3) (fun q => absurd rfl q)
set_option maxRecDepth 100000 in
set_option maxHeartbeats 4000000 in
theorem tl_restore {l : Launch} {D E : DT} {X : XT} {Q : State → Prop} {cells slots : Nat} {sb sL : Nat} {sx : Nat → Int32} {S : Mem → Mem → Prop} {x3 : Int32} {i : Nat} (hS : Sim_restore S) (hX : CxL l D E X sb sL sx cL_law) (hcell : cells ≤ 600000 ∧ slots ≤ 7302249) (hx : x3 = nI i) (hi : i + 6 ≤ sL) (hL : sL ≤ 3072) (hk : ∀ μ1 ν1, S μ1 ν1 → GL l D E X Q cells slots 1398 [some (.ref sb), some (.ref (D.1 0)), some (.ref (E.1 0)), some (.int x3)] [] μ1 ν1) : ∀ μ ν, S μ ν → GL l D E X Q cells slots 1303 [some (.ref sb), some (.ref (D.1 0)), some (.ref (E.1 0)), some (.int x3)] [] μ ν := by
  intro μ ν hs
  obtain ⟨r, μ1, ν1, h1, h2, h3⟩ := hS  μ ν hs
  refine gl_aload_n hX dL_law_1303 rfl rfl ?_
  refine gl_callC hX (c_X8_restore h1) mv_X8_restore wlm_938 kd_true_0 rfl (by decide) (by decide) hcell rfl rfl (Nat.le_of_ble_eq_true rfl) dL_law_1304 ?_
  refine gl_aload_n hX dL_law_1307 rfl rfl ?_
  refine gl_callR hX (c_X9_restore h2) mv_X9_restore wlm_1436 kd_false_0 rfl (by decide) (by decide) hcell rfl rfl (Nat.le_of_ble_eq_true rfl) dL_law_1308 ?_
  exact gl_icmp_eq (tgt := 1398) hX dL_law_1311 (by decide) (fun _ => hk μ1 ν1 h3) (fun q => absurd rfl q)
set_option maxRecDepth 100000 in
set_option maxHeartbeats 4000000 in
theorem tl_tell {l : Launch} {D E : DT} {X : XT} {Q : State → Prop} {cells slots : Nat} {sb sL : Nat} {sx : Nat → Int32} {S : Mem → Mem → Prop} {x3 : Int32} {i : Nat} (hS : Sim_tell S) (hX : CxL l D E X sb sL sx cL_law) (hcell : cells ≤ 600000 ∧ slots ≤ 7302249) (hx : x3 = nI i) (hi : i + 6 ≤ sL) (hL : sL ≤ 3072) (hk : ∀ μ1 ν1, S μ1 ν1 → GL l D E X Q cells slots 1398 [some (.ref sb), some (.ref (D.1 0)), some (.ref (E.1 0)), some (.int x3)] [] μ1 ν1) : ∀ μ ν, S μ ν → GL l D E X Q cells slots 1316 [some (.ref sb), some (.ref (D.1 0)), some (.ref (E.1 0)), some (.int x3)] [] μ ν := by
  intro μ ν hs
  obtain ⟨r, μ1, ν1, h1, h2, h3⟩ := hS (sx (ix (x3 + 1))) μ ν hs
  refine gl_aload_n hX dL_law_1316 rfl rfl ?_
  refine gl_aload_n hX dL_law_1317 rfl rfl ?_
  refine gl_iload_n hX dL_law_1318 rfl rfl ?_
  refine gl_iconst hX dL_law_1319 k_1 ?_
  refine gl_iadd hX dL_law_1320 ?_
  refine gl_sld hX (ix_in hx hi hL (c := 1) (k := 1) (by decide) (by decide)) dL_law_1321 ?_
  refine gl_callC hX (c_X8_tell _ h1) mv_X8_tell wlm_942 kd_true_0 rfl (by decide) (by decide) hcell rfl rfl (Nat.le_of_ble_eq_true rfl) dL_law_1322 ?_
  refine gl_aload_n hX dL_law_1325 rfl rfl ?_
  refine gl_aload_n hX dL_law_1326 rfl rfl ?_
  refine gl_iload_n hX dL_law_1327 rfl rfl ?_
  refine gl_iconst hX dL_law_1328 k_1 ?_
  refine gl_iadd hX dL_law_1329 ?_
  refine gl_sld hX (ix_in hx hi hL (c := 1) (k := 1) (by decide) (by decide)) dL_law_1330 ?_
  refine gl_callR hX (c_X9_tell _ h2) mv_X9_tell wlm_1440 kd_false_0 rfl (by decide) (by decide) hcell rfl rfl (Nat.le_of_ble_eq_true rfl) dL_law_1331 ?_
  exact gl_icmp_eq (tgt := 1398) hX dL_law_1334 (by decide) (fun _ => hk μ1 ν1 h3) (fun q => absurd rfl q)
set_option maxRecDepth 100000 in
set_option maxHeartbeats 4000000 in
theorem tl_check {l : Launch} {D E : DT} {X : XT} {Q : State → Prop} {cells slots : Nat} {sb sL : Nat} {sx : Nat → Int32} {S : Mem → Mem → Prop} {x3 : Int32} {i : Nat} (hS : Sim_check S) (hX : CxL l D E X sb sL sx cL_law) (hcell : cells ≤ 600000 ∧ slots ≤ 7302249) (hx : x3 = nI i) (hi : i + 6 ≤ sL) (hL : sL ≤ 3072) (hk : ∀ μ1 ν1, S μ1 ν1 → GL l D E X Q cells slots 1398 [some (.ref sb), some (.ref (D.1 0)), some (.ref (E.1 0)), some (.int x3)] [] μ1 ν1) : ∀ μ ν, S μ ν → GL l D E X Q cells slots 1339 [some (.ref sb), some (.ref (D.1 0)), some (.ref (E.1 0)), some (.int x3)] [] μ ν := by
  intro μ ν hs
  obtain ⟨r, μ1, ν1, h1, h2, h3⟩ := hS  μ ν hs
  refine gl_aload_n hX dL_law_1339 rfl rfl ?_
  refine gl_callC hX (c_X8_check h1) mv_X8_check wlm_946 kd_true_0 rfl (by decide) (by decide) hcell rfl rfl (Nat.le_of_ble_eq_true rfl) dL_law_1340 ?_
  refine gl_aload_n hX dL_law_1343 rfl rfl ?_
  refine gl_callR hX (c_X9_check h2) mv_X9_check wlm_1444 kd_false_0 rfl (by decide) (by decide) hcell rfl rfl (Nat.le_of_ble_eq_true rfl) dL_law_1344 ?_
  exact gl_icmp_eq (tgt := 1398) hX dL_law_1347 (by decide) (fun _ => hk μ1 ν1 h3) (fun q => absurd rfl q)
set_option maxRecDepth 100000 in
set_option maxHeartbeats 4000000 in
theorem tl_count {l : Launch} {D E : DT} {X : XT} {Q : State → Prop} {cells slots : Nat} {sb sL : Nat} {sx : Nat → Int32} {S : Mem → Mem → Prop} {x3 : Int32} {i : Nat} (hS : Sim_count S) (hX : CxL l D E X sb sL sx cL_law) (hcell : cells ≤ 600000 ∧ slots ≤ 7302249) (hx : x3 = nI i) (hi : i + 6 ≤ sL) (hL : sL ≤ 3072) (hk : ∀ μ1 ν1, S μ1 ν1 → GL l D E X Q cells slots 1398 [some (.ref sb), some (.ref (D.1 0)), some (.ref (E.1 0)), some (.int x3)] [] μ1 ν1) : ∀ μ ν, S μ ν → GL l D E X Q cells slots 1352 [some (.ref sb), some (.ref (D.1 0)), some (.ref (E.1 0)), some (.int x3)] [] μ ν := by
  intro μ ν hs
  obtain ⟨r, μ1, ν1, h1, h2, h3⟩ := hS (sx (ix (x3 + 1))) μ ν hs
  refine gl_aload_n hX dL_law_1352 rfl rfl ?_
  refine gl_aload_n hX dL_law_1353 rfl rfl ?_
  refine gl_iload_n hX dL_law_1354 rfl rfl ?_
  refine gl_iconst hX dL_law_1355 k_1 ?_
  refine gl_iadd hX dL_law_1356 ?_
  refine gl_sld hX (ix_in hx hi hL (c := 1) (k := 1) (by decide) (by decide)) dL_law_1357 ?_
  refine gl_callC hX (c_X8_count _ h1) mv_X8_count wlm_956 kd_true_0 rfl (by decide) (by decide) hcell rfl rfl (Nat.le_of_ble_eq_true rfl) dL_law_1358 ?_
  refine gl_aload_n hX dL_law_1361 rfl rfl ?_
  refine gl_aload_n hX dL_law_1362 rfl rfl ?_
  refine gl_iload_n hX dL_law_1363 rfl rfl ?_
  refine gl_iconst hX dL_law_1364 k_1 ?_
  refine gl_iadd hX dL_law_1365 ?_
  refine gl_sld hX (ix_in hx hi hL (c := 1) (k := 1) (by decide) (by decide)) dL_law_1366 ?_
  refine gl_callR hX (c_X9_count _ h2) mv_X9_count wlm_1448 kd_false_0 rfl (by decide) (by decide) hcell rfl rfl (Nat.le_of_ble_eq_true rfl) dL_law_1367 ?_
  exact gl_icmp_eq (tgt := 1398) hX dL_law_1370 (by decide) (fun _ => hk μ1 ν1 h3) (fun q => absurd rfl q)
set_option maxRecDepth 100000 in
set_option maxHeartbeats 4000000 in
theorem tl_told {l : Launch} {D E : DT} {X : XT} {Q : State → Prop} {cells slots : Nat} {sb sL : Nat} {sx : Nat → Int32} {S : Mem → Mem → Prop} {x3 : Int32} {i : Nat} (hS : Sim_told S) (hX : CxL l D E X sb sL sx cL_law) (hcell : cells ≤ 600000 ∧ slots ≤ 7302249) (hx : x3 = nI i) (hi : i + 6 ≤ sL) (hL : sL ≤ 3072) (hk : ∀ μ1 ν1, S μ1 ν1 → GL l D E X Q cells slots 1398 [some (.ref sb), some (.ref (D.1 0)), some (.ref (E.1 0)), some (.int x3)] [] μ1 ν1) : ∀ μ ν, S μ ν → GL l D E X Q cells slots 1375 [some (.ref sb), some (.ref (D.1 0)), some (.ref (E.1 0)), some (.int x3)] [] μ ν := by
  intro μ ν hs
  obtain ⟨r, μ1, ν1, h1, h2, h3⟩ := hS (sx (ix (x3 + 1))) μ ν hs
  refine gl_aload_n hX dL_law_1375 rfl rfl ?_
  refine gl_aload_n hX dL_law_1376 rfl rfl ?_
  refine gl_iload_n hX dL_law_1377 rfl rfl ?_
  refine gl_iconst hX dL_law_1378 k_1 ?_
  refine gl_iadd hX dL_law_1379 ?_
  refine gl_sld hX (ix_in hx hi hL (c := 1) (k := 1) (by decide) (by decide)) dL_law_1380 ?_
  refine gl_callC hX (c_X8_told _ h1) mv_X8_told wlm_960 kd_true_0 rfl (by decide) (by decide) hcell rfl rfl (Nat.le_of_ble_eq_true rfl) dL_law_1381 ?_
  refine gl_aload_n hX dL_law_1384 rfl rfl ?_
  refine gl_aload_n hX dL_law_1385 rfl rfl ?_
  refine gl_iload_n hX dL_law_1386 rfl rfl ?_
  refine gl_iconst hX dL_law_1387 k_1 ?_
  refine gl_iadd hX dL_law_1388 ?_
  refine gl_sld hX (ix_in hx hi hL (c := 1) (k := 1) (by decide) (by decide)) dL_law_1389 ?_
  refine gl_callR hX (c_X9_told _ h2) mv_X9_told wlm_1452 kd_false_0 rfl (by decide) (by decide) hcell rfl rfl (Nat.le_of_ble_eq_true rfl) dL_law_1390 ?_
  exact gl_icmp_eq (tgt := 1398) hX dL_law_1393 (by decide) (fun _ => hk μ1 ν1 h3) (fun q => absurd rfl q)
