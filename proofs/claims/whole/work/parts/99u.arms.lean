/-! THE PURE PART, 101: the law's arms -/
theorem ixs2 {i : Nat} : nI i + (2 : Int32) = nI (i + 2) := by rw [show (2 : Int32) = nI 2 from rfl, nI_add]
theorem ixs3 {i : Nat} : nI i + (3 : Int32) = nI (i + 3) := by rw [show (3 : Int32) = nI 3 from rfl, nI_add]
theorem ixs4 {i : Nat} : nI i + (4 : Int32) = nI (i + 4) := by rw [show (4 : Int32) = nI 4 from rfl, nI_add]
theorem ixs5 {i : Nat} : nI i + (5 : Int32) = nI (i + 5) := by rw [show (5 : Int32) = nI 5 from rfl, nI_add]
theorem ixs6 {i : Nat} : nI i + (6 : Int32) = nI (i + 6) := by rw [show (6 : Int32) = nI 6 from rfl, nI_add]
theorem ixs1 {i : Nat} : nI i + (1 : Int32) = nI (i + 1) := nI_1 i
theorem a_log {d L i : Nat} {s : Sn} {P : Option Av → St → Prop} (hs : s.2.2.1.1 = L) (hi : i + 6 ≤ L) (hL : L ≤ 3072) (hI : INV s) (kk : ∀ u, INV u → Ku s u → Wp (d + 9) ML_law 1506 [some (vR 0 0 0), some (vR 10 0 0), some (vR 40 0 0), some (vI (nI i))] [] (hN u) P) : Wp (d + 9) ML_law 224 [some (vR 0 0 0), some (vR 10 0 0), some (vR 40 0 0), some (vI (nI i))] [] (hN s) P := by
  refine wp_aload_n dL_law_224 rfl rfl ?_
  refine wp_aload_n dL_law_225 rfl rfl ?_
  refine wp_iload_n dL_law_226 rfl rfl ?_
  refine wp_iconst (v := 1) dL_law_227 (by decide) rfl ?_
  refine wp_iadd dL_law_228 rfl ?_
  refine wx_iald dL_law_229 rfl rfl (nIx ixs1 (by omega)) (by show i + 1 < s.2.2.1.1; omega) rfl ?_
  refine wp_aload_n dL_law_230 rfl rfl ?_
  refine wp_iload_n dL_law_231 rfl rfl ?_
  refine wp_iconst (v := 2) dL_law_232 (by decide) rfl ?_
  refine wp_iadd dL_law_233 rfl ?_
  refine wx_iald dL_law_234 rfl rfl (nIx ixs2 (by omega)) (by show i + 2 < s.2.2.1.1; omega) rfl ?_
  refine wp_aload_n dL_law_235 rfl rfl ?_
  refine wp_iload_n dL_law_236 rfl rfl ?_
  refine wp_iconst (v := 3) dL_law_237 (by decide) rfl ?_
  refine wp_iadd dL_law_238 rfl ?_
  refine wx_iald dL_law_239 rfl rfl (nIx ixs3 (by omega)) (by show i + 3 < s.2.2.1.1; omega) rfl ?_
  refine wn_callV3i dL_law_240 rRL_13 (rcv_of o10 rfl) (Nat.le_of_ble_eq_true rfl) rfl rfl rfl (Nat.le_of_ble_eq_true rfl) rfl (k_log (d := d) hI) (fun y t hq => ?_)
  obtain ⟨⟨e0, e1⟩, hq⟩ := hq
  have ht : t.2.2.1.1 = L := e1.trans hs
  refine wp_aload_n dL_law_243 rfl rfl ?_
  refine wp_aload_n dL_law_244 rfl rfl ?_
  refine wp_iload_n dL_law_245 rfl rfl ?_
  refine wp_iconst (v := 1) dL_law_246 (by decide) rfl ?_
  refine wp_iadd dL_law_247 rfl ?_
  refine wx_iald dL_law_248 rfl rfl (nIx ixs1 (by omega)) (by show i + 1 < t.2.2.1.1; omega) rfl ?_
  refine wp_aload_n dL_law_249 rfl rfl ?_
  refine wp_iload_n dL_law_250 rfl rfl ?_
  refine wp_iconst (v := 2) dL_law_251 (by decide) rfl ?_
  refine wp_iadd dL_law_252 rfl ?_
  refine wx_iald dL_law_253 rfl rfl (nIx ixs2 (by omega)) (by show i + 2 < t.2.2.1.1; omega) rfl ?_
  refine wp_aload_n dL_law_254 rfl rfl ?_
  refine wp_iload_n dL_law_255 rfl rfl ?_
  refine wp_iconst (v := 3) dL_law_256 (by decide) rfl ?_
  refine wp_iadd dL_law_257 rfl ?_
  refine wx_iald dL_law_258 rfl rfl (nIx ixs3 (by omega)) (by show i + 3 < t.2.2.1.1; omega) rfl ?_
  rw [e0]
  refine wn_callV3i dL_law_259 rRL_17 (rcv_of o40 rfl) (Nat.le_of_ble_eq_true rfl) rfl rfl rfl (Nat.le_of_ble_eq_true rfl) rfl hq (fun z u hu => ?_)
  obtain ⟨ez, hI2, hK⟩ := hu
  exact wp_icmp_eq (t := 1506) dL_law_262 rfl rfl (fun _ => kk u hI2 hK) (fun hne => absurd ez.symm hne)
theorem a_told {d L i : Nat} {s : Sn} {P : Option Av → St → Prop} (hs : s.2.2.1.1 = L) (hi : i + 6 ≤ L) (hL : L ≤ 3072) (hI : INV s) (kk : ∀ u, INV u → Ku s u → Wp (d + 9) ML_law 1506 [some (vR 0 0 0), some (vR 10 0 0), some (vR 40 0 0), some (vI (nI i))] [] (hN u) P) : Wp (d + 9) ML_law 267 [some (vR 0 0 0), some (vR 10 0 0), some (vR 40 0 0), some (vI (nI i))] [] (hN s) P := by
  refine wp_aload_n dL_law_267 rfl rfl ?_
  refine wp_aload_n dL_law_268 rfl rfl ?_
  refine wp_iload_n dL_law_269 rfl rfl ?_
  refine wp_iconst (v := 1) dL_law_270 (by decide) rfl ?_
  refine wp_iadd dL_law_271 rfl ?_
  refine wx_iald dL_law_272 rfl rfl (nIx ixs1 (by omega)) (by show i + 1 < s.2.2.1.1; omega) rfl ?_
  refine wp_aload_n dL_law_273 rfl rfl ?_
  refine wp_iload_n dL_law_274 rfl rfl ?_
  refine wp_iconst (v := 2) dL_law_275 (by decide) rfl ?_
  refine wp_iadd dL_law_276 rfl ?_
  refine wx_iald dL_law_277 rfl rfl (nIx ixs2 (by omega)) (by show i + 2 < s.2.2.1.1; omega) rfl ?_
  refine wn_callV2i dL_law_278 rRL_18 (rcv_of o10 rfl) (Nat.le_of_ble_eq_true rfl) rfl rfl (Nat.le_of_ble_eq_true rfl) rfl (k_told (d := d) hI) (fun y t hq => ?_)
  obtain ⟨⟨e0, e1⟩, hq⟩ := hq
  have ht : t.2.2.1.1 = L := e1.trans hs
  refine wp_aload_n dL_law_281 rfl rfl ?_
  refine wp_aload_n dL_law_282 rfl rfl ?_
  refine wp_iload_n dL_law_283 rfl rfl ?_
  refine wp_iconst (v := 1) dL_law_284 (by decide) rfl ?_
  refine wp_iadd dL_law_285 rfl ?_
  refine wx_iald dL_law_286 rfl rfl (nIx ixs1 (by omega)) (by show i + 1 < t.2.2.1.1; omega) rfl ?_
  refine wp_aload_n dL_law_287 rfl rfl ?_
  refine wp_iload_n dL_law_288 rfl rfl ?_
  refine wp_iconst (v := 2) dL_law_289 (by decide) rfl ?_
  refine wp_iadd dL_law_290 rfl ?_
  refine wx_iald dL_law_291 rfl rfl (nIx ixs2 (by omega)) (by show i + 2 < t.2.2.1.1; omega) rfl ?_
  rw [e0]
  refine wn_callV2i dL_law_292 rRL_22 (rcv_of o40 rfl) (Nat.le_of_ble_eq_true rfl) rfl rfl (Nat.le_of_ble_eq_true rfl) rfl hq (fun z u hu => ?_)
  obtain ⟨ez, hI2, hK⟩ := hu
  exact wp_icmp_eq (t := 1506) dL_law_295 rfl rfl (fun _ => kk u hI2 hK) (fun hne => absurd ez.symm hne)
theorem a_as {d L i : Nat} {s : Sn} {P : Option Av → St → Prop} (hs : s.2.2.1.1 = L) (hi : i + 6 ≤ L) (hL : L ≤ 3072) (hI : INV s) (kk : ∀ u, INV u → Ku s u → Wp (d + 9) ML_law 1506 [some (vR 0 0 0), some (vR 10 0 0), some (vR 40 0 0), some (vI (nI i))] [] (hN u) P) : Wp (d + 9) ML_law 300 [some (vR 0 0 0), some (vR 10 0 0), some (vR 40 0 0), some (vI (nI i))] [] (hN s) P := by
  refine wp_aload_n dL_law_300 rfl rfl ?_
  refine wp_aload_n dL_law_301 rfl rfl ?_
  refine wp_iload_n dL_law_302 rfl rfl ?_
  refine wp_iconst (v := 1) dL_law_303 (by decide) rfl ?_
  refine wp_iadd dL_law_304 rfl ?_
  refine wx_iald dL_law_305 rfl rfl (nIx ixs1 (by omega)) (by show i + 1 < s.2.2.1.1; omega) rfl ?_
  refine wp_aload_n dL_law_306 rfl rfl ?_
  refine wp_iload_n dL_law_307 rfl rfl ?_
  refine wp_iconst (v := 2) dL_law_308 (by decide) rfl ?_
  refine wp_iadd dL_law_309 rfl ?_
  refine wx_iald dL_law_310 rfl rfl (nIx ixs2 (by omega)) (by show i + 2 < s.2.2.1.1; omega) rfl ?_
  refine wn_callV2i dL_law_311 rRL_23 (rcv_of o10 rfl) (Nat.le_of_ble_eq_true rfl) rfl rfl (Nat.le_of_ble_eq_true rfl) rfl (k_as (d := d) hI) (fun y t hq => ?_)
  obtain ⟨⟨e0, e1⟩, hq⟩ := hq
  have ht : t.2.2.1.1 = L := e1.trans hs
  refine wp_aload_n dL_law_314 rfl rfl ?_
  refine wp_aload_n dL_law_315 rfl rfl ?_
  refine wp_iload_n dL_law_316 rfl rfl ?_
  refine wp_iconst (v := 1) dL_law_317 (by decide) rfl ?_
  refine wp_iadd dL_law_318 rfl ?_
  refine wx_iald dL_law_319 rfl rfl (nIx ixs1 (by omega)) (by show i + 1 < t.2.2.1.1; omega) rfl ?_
  refine wp_aload_n dL_law_320 rfl rfl ?_
  refine wp_iload_n dL_law_321 rfl rfl ?_
  refine wp_iconst (v := 2) dL_law_322 (by decide) rfl ?_
  refine wp_iadd dL_law_323 rfl ?_
  refine wx_iald dL_law_324 rfl rfl (nIx ixs2 (by omega)) (by show i + 2 < t.2.2.1.1; omega) rfl ?_
  rw [e0]
  refine wn_callV2i dL_law_325 rRL_26 (rcv_of o40 rfl) (Nat.le_of_ble_eq_true rfl) rfl rfl (Nat.le_of_ble_eq_true rfl) rfl hq (fun z u hu => ?_)
  obtain ⟨ez, hI2, hK⟩ := hu
  exact wp_icmp_eq (t := 1506) dL_law_328 rfl rfl (fun _ => kk u hI2 hK) (fun hne => absurd ez.symm hne)
theorem a_turns {d L i : Nat} {s : Sn} {P : Option Av → St → Prop} (hs : s.2.2.1.1 = L) (hi : i + 6 ≤ L) (hL : L ≤ 3072) (hI : INV s) (kk : ∀ u, INV u → Ku s u → Wp (d + 9) ML_law 1506 [some (vR 0 0 0), some (vR 10 0 0), some (vR 40 0 0), some (vI (nI i))] [] (hN u) P) : Wp (d + 9) ML_law 333 [some (vR 0 0 0), some (vR 10 0 0), some (vR 40 0 0), some (vI (nI i))] [] (hN s) P := by
  refine wp_aload_n dL_law_333 rfl rfl ?_
  refine wp_aload_n dL_law_334 rfl rfl ?_
  refine wp_iload_n dL_law_335 rfl rfl ?_
  refine wp_iconst (v := 1) dL_law_336 (by decide) rfl ?_
  refine wp_iadd dL_law_337 rfl ?_
  refine wx_iald dL_law_338 rfl rfl (nIx ixs1 (by omega)) (by show i + 1 < s.2.2.1.1; omega) rfl ?_
  refine wp_aload_n dL_law_339 rfl rfl ?_
  refine wp_iload_n dL_law_340 rfl rfl ?_
  refine wp_iconst (v := 2) dL_law_341 (by decide) rfl ?_
  refine wp_iadd dL_law_342 rfl ?_
  refine wx_iald dL_law_343 rfl rfl (nIx ixs2 (by omega)) (by show i + 2 < s.2.2.1.1; omega) rfl ?_
  refine wn_callV2i dL_law_344 rRL_27 (rcv_of o10 rfl) (Nat.le_of_ble_eq_true rfl) rfl rfl (Nat.le_of_ble_eq_true rfl) rfl (k_turns (d := d) hI) (fun y t hq => ?_)
  obtain ⟨⟨e0, e1⟩, hq⟩ := hq
  have ht : t.2.2.1.1 = L := e1.trans hs
  refine wp_aload_n dL_law_347 rfl rfl ?_
  refine wp_aload_n dL_law_348 rfl rfl ?_
  refine wp_iload_n dL_law_349 rfl rfl ?_
  refine wp_iconst (v := 1) dL_law_350 (by decide) rfl ?_
  refine wp_iadd dL_law_351 rfl ?_
  refine wx_iald dL_law_352 rfl rfl (nIx ixs1 (by omega)) (by show i + 1 < t.2.2.1.1; omega) rfl ?_
  refine wp_aload_n dL_law_353 rfl rfl ?_
  refine wp_iload_n dL_law_354 rfl rfl ?_
  refine wp_iconst (v := 2) dL_law_355 (by decide) rfl ?_
  refine wp_iadd dL_law_356 rfl ?_
  refine wx_iald dL_law_357 rfl rfl (nIx ixs2 (by omega)) (by show i + 2 < t.2.2.1.1; omega) rfl ?_
  rw [e0]
  refine wn_callV2i dL_law_358 rRL_30 (rcv_of o40 rfl) (Nat.le_of_ble_eq_true rfl) rfl rfl (Nat.le_of_ble_eq_true rfl) rfl hq (fun z u hu => ?_)
  obtain ⟨ez, hI2, hK⟩ := hu
  exact wp_icmp_eq (t := 1506) dL_law_361 rfl rfl (fun _ => kk u hI2 hK) (fun hne => absurd ez.symm hne)
theorem a_set {d L i : Nat} {s : Sn} {P : Option Av → St → Prop} (hs : s.2.2.1.1 = L) (hi : i + 6 ≤ L) (hL : L ≤ 3072) (hI : INV s) (kk : ∀ u, INV u → Ku s u → Wp (d + 9) ML_law 1506 [some (vR 0 0 0), some (vR 10 0 0), some (vR 40 0 0), some (vI (nI i))] [] (hN u) P) : Wp (d + 9) ML_law 366 [some (vR 0 0 0), some (vR 10 0 0), some (vR 40 0 0), some (vI (nI i))] [] (hN s) P := by
  refine wp_aload_n dL_law_366 rfl rfl ?_
  refine wp_aload_n dL_law_367 rfl rfl ?_
  refine wp_iload_n dL_law_368 rfl rfl ?_
  refine wp_iconst (v := 1) dL_law_369 (by decide) rfl ?_
  refine wp_iadd dL_law_370 rfl ?_
  refine wx_iald dL_law_371 rfl rfl (nIx ixs1 (by omega)) (by show i + 1 < s.2.2.1.1; omega) rfl ?_
  refine wp_aload_n dL_law_372 rfl rfl ?_
  refine wp_iload_n dL_law_373 rfl rfl ?_
  refine wp_iconst (v := 2) dL_law_374 (by decide) rfl ?_
  refine wp_iadd dL_law_375 rfl ?_
  refine wx_iald dL_law_376 rfl rfl (nIx ixs2 (by omega)) (by show i + 2 < s.2.2.1.1; omega) rfl ?_
  refine wp_aload_n dL_law_377 rfl rfl ?_
  refine wp_iload_n dL_law_378 rfl rfl ?_
  refine wp_iconst (v := 3) dL_law_379 (by decide) rfl ?_
  refine wp_iadd dL_law_380 rfl ?_
  refine wx_iald dL_law_381 rfl rfl (nIx ixs3 (by omega)) (by show i + 3 < s.2.2.1.1; omega) rfl ?_
  refine wn_callV3i dL_law_382 rRL_31 (rcv_of o10 rfl) (Nat.le_of_ble_eq_true rfl) rfl rfl rfl (Nat.le_of_ble_eq_true rfl) rfl (k_set (d := d) hI) (fun y t hq => ?_)
  obtain ⟨⟨e0, e1⟩, hq⟩ := hq
  have ht : t.2.2.1.1 = L := e1.trans hs
  refine wp_aload_n dL_law_385 rfl rfl ?_
  refine wp_aload_n dL_law_386 rfl rfl ?_
  refine wp_iload_n dL_law_387 rfl rfl ?_
  refine wp_iconst (v := 1) dL_law_388 (by decide) rfl ?_
  refine wp_iadd dL_law_389 rfl ?_
  refine wx_iald dL_law_390 rfl rfl (nIx ixs1 (by omega)) (by show i + 1 < t.2.2.1.1; omega) rfl ?_
  refine wp_aload_n dL_law_391 rfl rfl ?_
  refine wp_iload_n dL_law_392 rfl rfl ?_
  refine wp_iconst (v := 2) dL_law_393 (by decide) rfl ?_
  refine wp_iadd dL_law_394 rfl ?_
  refine wx_iald dL_law_395 rfl rfl (nIx ixs2 (by omega)) (by show i + 2 < t.2.2.1.1; omega) rfl ?_
  refine wp_aload_n dL_law_396 rfl rfl ?_
  refine wp_iload_n dL_law_397 rfl rfl ?_
  refine wp_iconst (v := 3) dL_law_398 (by decide) rfl ?_
  refine wp_iadd dL_law_399 rfl ?_
  refine wx_iald dL_law_400 rfl rfl (nIx ixs3 (by omega)) (by show i + 3 < t.2.2.1.1; omega) rfl ?_
  rw [e0]
  refine wn_callV3i dL_law_401 rRL_34 (rcv_of o40 rfl) (Nat.le_of_ble_eq_true rfl) rfl rfl rfl (Nat.le_of_ble_eq_true rfl) rfl hq (fun z u hu => ?_)
  obtain ⟨ez, hI2, hK⟩ := hu
  exact wp_icmp_eq (t := 1506) dL_law_404 rfl rfl (fun _ => kk u hI2 hK) (fun hne => absurd ez.symm hne)
theorem a_lays {d L i : Nat} {s : Sn} {P : Option Av → St → Prop} (hs : s.2.2.1.1 = L) (hi : i + 6 ≤ L) (hL : L ≤ 3072) (hI : INV s) (kk : ∀ u, INV u → Ku s u → Wp (d + 9) ML_law 1506 [some (vR 0 0 0), some (vR 10 0 0), some (vR 40 0 0), some (vI (nI i))] [] (hN u) P) : Wp (d + 9) ML_law 409 [some (vR 0 0 0), some (vR 10 0 0), some (vR 40 0 0), some (vI (nI i))] [] (hN s) P := by
  refine wp_aload_n dL_law_409 rfl rfl ?_
  refine wp_aload_n dL_law_410 rfl rfl ?_
  refine wp_iload_n dL_law_411 rfl rfl ?_
  refine wp_iconst (v := 1) dL_law_412 (by decide) rfl ?_
  refine wp_iadd dL_law_413 rfl ?_
  refine wx_iald dL_law_414 rfl rfl (nIx ixs1 (by omega)) (by show i + 1 < s.2.2.1.1; omega) rfl ?_
  refine wp_aload_n dL_law_415 rfl rfl ?_
  refine wp_iload_n dL_law_416 rfl rfl ?_
  refine wp_iconst (v := 2) dL_law_417 (by decide) rfl ?_
  refine wp_iadd dL_law_418 rfl ?_
  refine wx_iald dL_law_419 rfl rfl (nIx ixs2 (by omega)) (by show i + 2 < s.2.2.1.1; omega) rfl ?_
  refine wn_callV2i dL_law_420 rRL_35 (rcv_of o10 rfl) (Nat.le_of_ble_eq_true rfl) rfl rfl (Nat.le_of_ble_eq_true rfl) rfl (k_lays (d := d) hI) (fun y t hq => ?_)
  obtain ⟨⟨e0, e1⟩, hq⟩ := hq
  have ht : t.2.2.1.1 = L := e1.trans hs
  refine wp_aload_n dL_law_423 rfl rfl ?_
  refine wp_aload_n dL_law_424 rfl rfl ?_
  refine wp_iload_n dL_law_425 rfl rfl ?_
  refine wp_iconst (v := 1) dL_law_426 (by decide) rfl ?_
  refine wp_iadd dL_law_427 rfl ?_
  refine wx_iald dL_law_428 rfl rfl (nIx ixs1 (by omega)) (by show i + 1 < t.2.2.1.1; omega) rfl ?_
  refine wp_aload_n dL_law_429 rfl rfl ?_
  refine wp_iload_n dL_law_430 rfl rfl ?_
  refine wp_iconst (v := 2) dL_law_431 (by decide) rfl ?_
  refine wp_iadd dL_law_432 rfl ?_
  refine wx_iald dL_law_433 rfl rfl (nIx ixs2 (by omega)) (by show i + 2 < t.2.2.1.1; omega) rfl ?_
  rw [e0]
  refine wn_callV2i dL_law_434 rRL_38 (rcv_of o40 rfl) (Nat.le_of_ble_eq_true rfl) rfl rfl (Nat.le_of_ble_eq_true rfl) rfl hq (fun z u hu => ?_)
  obtain ⟨ez, hI2, hK⟩ := hu
  exact wp_icmp_eq (t := 1506) dL_law_437 rfl rfl (fun _ => kk u hI2 hK) (fun hne => absurd ez.symm hne)
theorem a_reach {d L i : Nat} {s : Sn} {P : Option Av → St → Prop} (hs : s.2.2.1.1 = L) (hi : i + 6 ≤ L) (hL : L ≤ 3072) (hI : INV s) (kk : ∀ u, INV u → Ku s u → Wp (d + 9) ML_law 1506 [some (vR 0 0 0), some (vR 10 0 0), some (vR 40 0 0), some (vI (nI i))] [] (hN u) P) : Wp (d + 9) ML_law 442 [some (vR 0 0 0), some (vR 10 0 0), some (vR 40 0 0), some (vI (nI i))] [] (hN s) P := by
  refine wp_aload_n dL_law_442 rfl rfl ?_
  refine wp_aload_n dL_law_443 rfl rfl ?_
  refine wp_iload_n dL_law_444 rfl rfl ?_
  refine wp_iconst (v := 1) dL_law_445 (by decide) rfl ?_
  refine wp_iadd dL_law_446 rfl ?_
  refine wx_iald dL_law_447 rfl rfl (nIx ixs1 (by omega)) (by show i + 1 < s.2.2.1.1; omega) rfl ?_
  refine wp_aload_n dL_law_448 rfl rfl ?_
  refine wp_iload_n dL_law_449 rfl rfl ?_
  refine wp_iconst (v := 2) dL_law_450 (by decide) rfl ?_
  refine wp_iadd dL_law_451 rfl ?_
  refine wx_iald dL_law_452 rfl rfl (nIx ixs2 (by omega)) (by show i + 2 < s.2.2.1.1; omega) rfl ?_
  refine wp_aload_n dL_law_453 rfl rfl ?_
  refine wp_iload_n dL_law_454 rfl rfl ?_
  refine wp_iconst (v := 3) dL_law_455 (by decide) rfl ?_
  refine wp_iadd dL_law_456 rfl ?_
  refine wx_iald dL_law_457 rfl rfl (nIx ixs3 (by omega)) (by show i + 3 < s.2.2.1.1; omega) rfl ?_
  refine wn_callV3i dL_law_458 rRL_39 (rcv_of o10 rfl) (Nat.le_of_ble_eq_true rfl) rfl rfl rfl (Nat.le_of_ble_eq_true rfl) rfl (k_reach (d := d) hI) (fun y t hq => ?_)
  obtain ⟨⟨e0, e1⟩, hq⟩ := hq
  have ht : t.2.2.1.1 = L := e1.trans hs
  refine wp_aload_n dL_law_461 rfl rfl ?_
  refine wp_aload_n dL_law_462 rfl rfl ?_
  refine wp_iload_n dL_law_463 rfl rfl ?_
  refine wp_iconst (v := 1) dL_law_464 (by decide) rfl ?_
  refine wp_iadd dL_law_465 rfl ?_
  refine wx_iald dL_law_466 rfl rfl (nIx ixs1 (by omega)) (by show i + 1 < t.2.2.1.1; omega) rfl ?_
  refine wp_aload_n dL_law_467 rfl rfl ?_
  refine wp_iload_n dL_law_468 rfl rfl ?_
  refine wp_iconst (v := 2) dL_law_469 (by decide) rfl ?_
  refine wp_iadd dL_law_470 rfl ?_
  refine wx_iald dL_law_471 rfl rfl (nIx ixs2 (by omega)) (by show i + 2 < t.2.2.1.1; omega) rfl ?_
  refine wp_aload_n dL_law_472 rfl rfl ?_
  refine wp_iload_n dL_law_473 rfl rfl ?_
  refine wp_iconst (v := 3) dL_law_474 (by decide) rfl ?_
  refine wp_iadd dL_law_475 rfl ?_
  refine wx_iald dL_law_476 rfl rfl (nIx ixs3 (by omega)) (by show i + 3 < t.2.2.1.1; omega) rfl ?_
  rw [e0]
  refine wn_callV3i dL_law_477 rRL_42 (rcv_of o40 rfl) (Nat.le_of_ble_eq_true rfl) rfl rfl rfl (Nat.le_of_ble_eq_true rfl) rfl hq (fun z u hu => ?_)
  obtain ⟨ez, hI2, hK⟩ := hu
  exact wp_icmp_eq (t := 1506) dL_law_480 rfl rfl (fun _ => kk u hI2 hK) (fun hne => absurd ez.symm hne)
theorem a_rule {d L i : Nat} {s : Sn} {P : Option Av → St → Prop} (hs : s.2.2.1.1 = L) (hi : i + 6 ≤ L) (hL : L ≤ 3072) (hI : INV s) (kk : ∀ u, INV u → Ku s u → Wp (d + 9) ML_law 1506 [some (vR 0 0 0), some (vR 10 0 0), some (vR 40 0 0), some (vI (nI i))] [] (hN u) P) : Wp (d + 9) ML_law 485 [some (vR 0 0 0), some (vR 10 0 0), some (vR 40 0 0), some (vI (nI i))] [] (hN s) P := by
  refine wp_aload_n dL_law_485 rfl rfl ?_
  refine wp_aload_n dL_law_486 rfl rfl ?_
  refine wp_iload_n dL_law_487 rfl rfl ?_
  refine wp_iconst (v := 1) dL_law_488 (by decide) rfl ?_
  refine wp_iadd dL_law_489 rfl ?_
  refine wx_iald dL_law_490 rfl rfl (nIx ixs1 (by omega)) (by show i + 1 < s.2.2.1.1; omega) rfl ?_
  refine wp_aload_n dL_law_491 rfl rfl ?_
  refine wp_iload_n dL_law_492 rfl rfl ?_
  refine wp_iconst (v := 2) dL_law_493 (by decide) rfl ?_
  refine wp_iadd dL_law_494 rfl ?_
  refine wx_iald dL_law_495 rfl rfl (nIx ixs2 (by omega)) (by show i + 2 < s.2.2.1.1; omega) rfl ?_
  refine wn_callV2i dL_law_496 rRL_43 (rcv_of o10 rfl) (Nat.le_of_ble_eq_true rfl) rfl rfl (Nat.le_of_ble_eq_true rfl) rfl (k_rule (d := d) hI) (fun y t hq => ?_)
  obtain ⟨⟨e0, e1⟩, hq⟩ := hq
  have ht : t.2.2.1.1 = L := e1.trans hs
  refine wp_aload_n dL_law_499 rfl rfl ?_
  refine wp_aload_n dL_law_500 rfl rfl ?_
  refine wp_iload_n dL_law_501 rfl rfl ?_
  refine wp_iconst (v := 1) dL_law_502 (by decide) rfl ?_
  refine wp_iadd dL_law_503 rfl ?_
  refine wx_iald dL_law_504 rfl rfl (nIx ixs1 (by omega)) (by show i + 1 < t.2.2.1.1; omega) rfl ?_
  refine wp_aload_n dL_law_505 rfl rfl ?_
  refine wp_iload_n dL_law_506 rfl rfl ?_
  refine wp_iconst (v := 2) dL_law_507 (by decide) rfl ?_
  refine wp_iadd dL_law_508 rfl ?_
  refine wx_iald dL_law_509 rfl rfl (nIx ixs2 (by omega)) (by show i + 2 < t.2.2.1.1; omega) rfl ?_
  rw [e0]
  refine wn_callV2i dL_law_510 rRL_46 (rcv_of o40 rfl) (Nat.le_of_ble_eq_true rfl) rfl rfl (Nat.le_of_ble_eq_true rfl) rfl hq (fun z u hu => ?_)
  obtain ⟨ez, hI2, hK⟩ := hu
  exact wp_icmp_eq (t := 1506) dL_law_513 rfl rfl (fun _ => kk u hI2 hK) (fun hne => absurd ez.symm hne)
theorem a_word {d L i : Nat} {s : Sn} {P : Option Av → St → Prop} (hs : s.2.2.1.1 = L) (hi : i + 6 ≤ L) (hL : L ≤ 3072) (hI : INV s) (kk : ∀ u, INV u → Ku s u → Wp (d + 9) ML_law 1506 [some (vR 0 0 0), some (vR 10 0 0), some (vR 40 0 0), some (vI (nI i))] [] (hN u) P) : Wp (d + 9) ML_law 518 [some (vR 0 0 0), some (vR 10 0 0), some (vR 40 0 0), some (vI (nI i))] [] (hN s) P := by
  refine wp_aload_n dL_law_518 rfl rfl ?_
  refine wp_aload_n dL_law_519 rfl rfl ?_
  refine wp_iload_n dL_law_520 rfl rfl ?_
  refine wp_iconst (v := 1) dL_law_521 (by decide) rfl ?_
  refine wp_iadd dL_law_522 rfl ?_
  refine wx_iald dL_law_523 rfl rfl (nIx ixs1 (by omega)) (by show i + 1 < s.2.2.1.1; omega) rfl ?_
  refine wn_callV1i dL_law_524 rRL_47 (rcv_of o10 rfl) (Nat.le_of_ble_eq_true rfl) rfl (Nat.le_of_ble_eq_true rfl) rfl (k_word (d := d) hI) (fun y t hq => ?_)
  obtain ⟨⟨e0, e1⟩, hq⟩ := hq
  have ht : t.2.2.1.1 = L := e1.trans hs
  refine wp_aload_n dL_law_527 rfl rfl ?_
  refine wp_aload_n dL_law_528 rfl rfl ?_
  refine wp_iload_n dL_law_529 rfl rfl ?_
  refine wp_iconst (v := 1) dL_law_530 (by decide) rfl ?_
  refine wp_iadd dL_law_531 rfl ?_
  refine wx_iald dL_law_532 rfl rfl (nIx ixs1 (by omega)) (by show i + 1 < t.2.2.1.1; omega) rfl ?_
  rw [e0]
  refine wn_callV1i dL_law_533 rRL_51 (rcv_of o40 rfl) (Nat.le_of_ble_eq_true rfl) rfl (Nat.le_of_ble_eq_true rfl) rfl hq (fun z u hu => ?_)
  obtain ⟨ez, hI2, hK⟩ := hu
  exact wp_icmp_eq (t := 1506) dL_law_536 rfl rfl (fun _ => kk u hI2 hK) (fun hne => absurd ez.symm hne)
theorem a_unword {d L i : Nat} {s : Sn} {P : Option Av → St → Prop} (hs : s.2.2.1.1 = L) (hi : i + 6 ≤ L) (hL : L ≤ 3072) (hI : INV s) (kk : ∀ u, INV u → Ku s u → Wp (d + 9) ML_law 1506 [some (vR 0 0 0), some (vR 10 0 0), some (vR 40 0 0), some (vI (nI i))] [] (hN u) P) : Wp (d + 9) ML_law 541 [some (vR 0 0 0), some (vR 10 0 0), some (vR 40 0 0), some (vI (nI i))] [] (hN s) P := by
  refine wp_aload_n dL_law_541 rfl rfl ?_
  refine wn_callV0i dL_law_542 rRL_52 (rcv_of o10 rfl) (Nat.le_of_ble_eq_true rfl)  (Nat.le_of_ble_eq_true rfl) rfl (k_unword (d := d) hI) (fun y t hq => ?_)
  obtain ⟨⟨e0, e1⟩, hq⟩ := hq
  have ht : t.2.2.1.1 = L := e1.trans hs
  refine wp_aload_n dL_law_545 rfl rfl ?_
  refine wn_callV0i dL_law_546 rRL_56 (rcv_of o40 rfl) (Nat.le_of_ble_eq_true rfl)  (Nat.le_of_ble_eq_true rfl) rfl hq (fun z u hu => ?_)
  obtain ⟨ez, hI2, hK⟩ := hu
  exact wp_icmp_eq (t := 1506) dL_law_549 rfl rfl (fun _ => kk u hI2 hK) (fun hne => absurd ez.symm hne)
theorem a_deal {d L i : Nat} {s : Sn} {P : Option Av → St → Prop} (hs : s.2.2.1.1 = L) (hi : i + 6 ≤ L) (hL : L ≤ 3072) (hI : INV s) (kk : ∀ u, INV u → Ku s u → Wp (d + 9) ML_law 1506 [some (vR 0 0 0), some (vR 10 0 0), some (vR 40 0 0), some (vI (nI i))] [] (hN u) P) : Wp (d + 9) ML_law 554 [some (vR 0 0 0), some (vR 10 0 0), some (vR 40 0 0), some (vI (nI i))] [] (hN s) P := by
  refine wp_aload_n dL_law_554 rfl rfl ?_
  refine wp_aload_n dL_law_555 rfl rfl ?_
  refine wp_iload_n dL_law_556 rfl rfl ?_
  refine wp_iconst (v := 1) dL_law_557 (by decide) rfl ?_
  refine wp_iadd dL_law_558 rfl ?_
  refine wx_iald dL_law_559 rfl rfl (nIx ixs1 (by omega)) (by show i + 1 < s.2.2.1.1; omega) rfl ?_
  refine wn_callV1i dL_law_560 rRL_57 (rcv_of o10 rfl) (Nat.le_of_ble_eq_true rfl) rfl (Nat.le_of_ble_eq_true rfl) rfl (k_deal (d := d) hI) (fun y t hq => ?_)
  obtain ⟨⟨e0, e1⟩, hq⟩ := hq
  have ht : t.2.2.1.1 = L := e1.trans hs
  refine wp_aload_n dL_law_563 rfl rfl ?_
  refine wp_aload_n dL_law_564 rfl rfl ?_
  refine wp_iload_n dL_law_565 rfl rfl ?_
  refine wp_iconst (v := 1) dL_law_566 (by decide) rfl ?_
  refine wp_iadd dL_law_567 rfl ?_
  refine wx_iald dL_law_568 rfl rfl (nIx ixs1 (by omega)) (by show i + 1 < t.2.2.1.1; omega) rfl ?_
  rw [e0]
  refine wn_callV1i dL_law_569 rRL_60 (rcv_of o40 rfl) (Nat.le_of_ble_eq_true rfl) rfl (Nat.le_of_ble_eq_true rfl) rfl hq (fun z u hu => ?_)
  obtain ⟨ez, hI2, hK⟩ := hu
  exact wp_icmp_eq (t := 1506) dL_law_572 rfl rfl (fun _ => kk u hI2 hK) (fun hne => absurd ez.symm hne)
theorem a_seed {d L i : Nat} {s : Sn} {P : Option Av → St → Prop} (hs : s.2.2.1.1 = L) (hi : i + 6 ≤ L) (hL : L ≤ 3072) (hI : INV s) (kk : ∀ u, INV u → Ku s u → Wp (d + 9) ML_law 1506 [some (vR 0 0 0), some (vR 10 0 0), some (vR 40 0 0), some (vI (nI i))] [] (hN u) P) : Wp (d + 9) ML_law 577 [some (vR 0 0 0), some (vR 10 0 0), some (vR 40 0 0), some (vI (nI i))] [] (hN s) P := by
  refine wp_aload_n dL_law_577 rfl rfl ?_
  refine wp_aload_n dL_law_578 rfl rfl ?_
  refine wp_iload_n dL_law_579 rfl rfl ?_
  refine wp_iconst (v := 1) dL_law_580 (by decide) rfl ?_
  refine wp_iadd dL_law_581 rfl ?_
  refine wx_iald dL_law_582 rfl rfl (nIx ixs1 (by omega)) (by show i + 1 < s.2.2.1.1; omega) rfl ?_
  refine wn_callV1i dL_law_583 rRL_61 (rcv_of o10 rfl) (Nat.le_of_ble_eq_true rfl) rfl (Nat.le_of_ble_eq_true rfl) rfl (k_seed (d := d) hI) (fun y t hq => ?_)
  obtain ⟨⟨e0, e1⟩, hq⟩ := hq
  have ht : t.2.2.1.1 = L := e1.trans hs
  refine wp_aload_n dL_law_586 rfl rfl ?_
  refine wp_aload_n dL_law_587 rfl rfl ?_
  refine wp_iload_n dL_law_588 rfl rfl ?_
  refine wp_iconst (v := 1) dL_law_589 (by decide) rfl ?_
  refine wp_iadd dL_law_590 rfl ?_
  refine wx_iald dL_law_591 rfl rfl (nIx ixs1 (by omega)) (by show i + 1 < t.2.2.1.1; omega) rfl ?_
  rw [e0]
  refine wn_callV1i dL_law_592 rRL_64 (rcv_of o40 rfl) (Nat.le_of_ble_eq_true rfl) rfl (Nat.le_of_ble_eq_true rfl) rfl hq (fun z u hu => ?_)
  obtain ⟨ez, hI2, hK⟩ := hu
  exact wp_icmp_eq (t := 1506) dL_law_595 rfl rfl (fun _ => kk u hI2 hK) (fun hne => absurd ez.symm hne)
theorem a_weeks {d L i : Nat} {s : Sn} {P : Option Av → St → Prop} (hs : s.2.2.1.1 = L) (hi : i + 6 ≤ L) (hL : L ≤ 3072) (hI : INV s) (kk : ∀ u, INV u → Ku s u → Wp (d + 9) ML_law 1506 [some (vR 0 0 0), some (vR 10 0 0), some (vR 40 0 0), some (vI (nI i))] [] (hN u) P) : Wp (d + 9) ML_law 600 [some (vR 0 0 0), some (vR 10 0 0), some (vR 40 0 0), some (vI (nI i))] [] (hN s) P := by
  refine wp_aload_n dL_law_600 rfl rfl ?_
  refine wp_aload_n dL_law_601 rfl rfl ?_
  refine wp_iload_n dL_law_602 rfl rfl ?_
  refine wp_iconst (v := 1) dL_law_603 (by decide) rfl ?_
  refine wp_iadd dL_law_604 rfl ?_
  refine wx_iald dL_law_605 rfl rfl (nIx ixs1 (by omega)) (by show i + 1 < s.2.2.1.1; omega) rfl ?_
  refine wn_callV1i dL_law_606 rRL_65 (rcv_of o10 rfl) (Nat.le_of_ble_eq_true rfl) rfl (Nat.le_of_ble_eq_true rfl) rfl (k_weeks (d := d) hI) (fun y t hq => ?_)
  obtain ⟨⟨e0, e1⟩, hq⟩ := hq
  have ht : t.2.2.1.1 = L := e1.trans hs
  refine wp_aload_n dL_law_609 rfl rfl ?_
  refine wp_aload_n dL_law_610 rfl rfl ?_
  refine wp_iload_n dL_law_611 rfl rfl ?_
  refine wp_iconst (v := 1) dL_law_612 (by decide) rfl ?_
  refine wp_iadd dL_law_613 rfl ?_
  refine wx_iald dL_law_614 rfl rfl (nIx ixs1 (by omega)) (by show i + 1 < t.2.2.1.1; omega) rfl ?_
  rw [e0]
  refine wn_callV1i dL_law_615 rRL_68 (rcv_of o40 rfl) (Nat.le_of_ble_eq_true rfl) rfl (Nat.le_of_ble_eq_true rfl) rfl hq (fun z u hu => ?_)
  obtain ⟨ez, hI2, hK⟩ := hu
  exact wp_icmp_eq (t := 1506) dL_law_618 rfl rfl (fun _ => kk u hI2 hK) (fun hne => absurd ez.symm hne)
theorem a_read {d L i : Nat} {s : Sn} {P : Option Av → St → Prop} (hs : s.2.2.1.1 = L) (hi : i + 6 ≤ L) (hL : L ≤ 3072) (hI : INV s) (kk : ∀ u, INV u → Ku s u → Wp (d + 9) ML_law 1506 [some (vR 0 0 0), some (vR 10 0 0), some (vR 40 0 0), some (vI (nI i))] [] (hN u) P) : Wp (d + 9) ML_law 623 [some (vR 0 0 0), some (vR 10 0 0), some (vR 40 0 0), some (vI (nI i))] [] (hN s) P := by
  refine wp_aload_n dL_law_623 rfl rfl ?_
  refine wp_aload_n dL_law_624 rfl rfl ?_
  refine wp_iload_n dL_law_625 rfl rfl ?_
  refine wp_iconst (v := 1) dL_law_626 (by decide) rfl ?_
  refine wp_iadd dL_law_627 rfl ?_
  refine wx_iald dL_law_628 rfl rfl (nIx ixs1 (by omega)) (by show i + 1 < s.2.2.1.1; omega) rfl ?_
  refine wn_callV1i dL_law_629 rRL_69 (rcv_of o10 rfl) (Nat.le_of_ble_eq_true rfl) rfl (Nat.le_of_ble_eq_true rfl) rfl (k_read (d := d) hI) (fun y t hq => ?_)
  obtain ⟨⟨e0, e1⟩, hq⟩ := hq
  have ht : t.2.2.1.1 = L := e1.trans hs
  refine wp_aload_n dL_law_632 rfl rfl ?_
  refine wp_aload_n dL_law_633 rfl rfl ?_
  refine wp_iload_n dL_law_634 rfl rfl ?_
  refine wp_iconst (v := 1) dL_law_635 (by decide) rfl ?_
  refine wp_iadd dL_law_636 rfl ?_
  refine wx_iald dL_law_637 rfl rfl (nIx ixs1 (by omega)) (by show i + 1 < t.2.2.1.1; omega) rfl ?_
  rw [e0]
  refine wn_callV1i dL_law_638 rRL_72 (rcv_of o40 rfl) (Nat.le_of_ble_eq_true rfl) rfl (Nat.le_of_ble_eq_true rfl) rfl hq (fun z u hu => ?_)
  obtain ⟨ez, hI2, hK⟩ := hu
  exact wp_icmp_eq (t := 1506) dL_law_641 rfl rfl (fun _ => kk u hI2 hK) (fun hne => absurd ez.symm hne)
theorem a_river {d L i : Nat} {s : Sn} {P : Option Av → St → Prop} (hs : s.2.2.1.1 = L) (hi : i + 6 ≤ L) (hL : L ≤ 3072) (hI : INV s) (kk : ∀ u, INV u → Ku s u → Wp (d + 9) ML_law 1506 [some (vR 0 0 0), some (vR 10 0 0), some (vR 40 0 0), some (vI (nI i))] [] (hN u) P) : Wp (d + 9) ML_law 646 [some (vR 0 0 0), some (vR 10 0 0), some (vR 40 0 0), some (vI (nI i))] [] (hN s) P := by
  refine wp_aload_n dL_law_646 rfl rfl ?_
  refine wp_aload_n dL_law_647 rfl rfl ?_
  refine wp_iload_n dL_law_648 rfl rfl ?_
  refine wp_iconst (v := 1) dL_law_649 (by decide) rfl ?_
  refine wp_iadd dL_law_650 rfl ?_
  refine wx_iald dL_law_651 rfl rfl (nIx ixs1 (by omega)) (by show i + 1 < s.2.2.1.1; omega) rfl ?_
  refine wn_callV1i dL_law_652 rRL_73 (rcv_of o10 rfl) (Nat.le_of_ble_eq_true rfl) rfl (Nat.le_of_ble_eq_true rfl) rfl (k_river (d := d) hI) (fun y t hq => ?_)
  obtain ⟨⟨e0, e1⟩, hq⟩ := hq
  have ht : t.2.2.1.1 = L := e1.trans hs
  refine wp_aload_n dL_law_655 rfl rfl ?_
  refine wp_aload_n dL_law_656 rfl rfl ?_
  refine wp_iload_n dL_law_657 rfl rfl ?_
  refine wp_iconst (v := 1) dL_law_658 (by decide) rfl ?_
  refine wp_iadd dL_law_659 rfl ?_
  refine wx_iald dL_law_660 rfl rfl (nIx ixs1 (by omega)) (by show i + 1 < t.2.2.1.1; omega) rfl ?_
  rw [e0]
  refine wn_callV1i dL_law_661 rRL_76 (rcv_of o40 rfl) (Nat.le_of_ble_eq_true rfl) rfl (Nat.le_of_ble_eq_true rfl) rfl hq (fun z u hu => ?_)
  obtain ⟨ez, hI2, hK⟩ := hu
  exact wp_icmp_eq (t := 1506) dL_law_664 rfl rfl (fun _ => kk u hI2 hK) (fun hne => absurd ez.symm hne)
theorem a_behind {d L i : Nat} {s : Sn} {P : Option Av → St → Prop} (hs : s.2.2.1.1 = L) (hi : i + 6 ≤ L) (hL : L ≤ 3072) (hI : INV s) (kk : ∀ u, INV u → Ku s u → Wp (d + 9) ML_law 1506 [some (vR 0 0 0), some (vR 10 0 0), some (vR 40 0 0), some (vI (nI i))] [] (hN u) P) : Wp (d + 9) ML_law 669 [some (vR 0 0 0), some (vR 10 0 0), some (vR 40 0 0), some (vI (nI i))] [] (hN s) P := by
  refine wp_aload_n dL_law_669 rfl rfl ?_
  refine wp_aload_n dL_law_670 rfl rfl ?_
  refine wp_iload_n dL_law_671 rfl rfl ?_
  refine wp_iconst (v := 1) dL_law_672 (by decide) rfl ?_
  refine wp_iadd dL_law_673 rfl ?_
  refine wx_iald dL_law_674 rfl rfl (nIx ixs1 (by omega)) (by show i + 1 < s.2.2.1.1; omega) rfl ?_
  refine wp_aload_n dL_law_675 rfl rfl ?_
  refine wp_iload_n dL_law_676 rfl rfl ?_
  refine wp_iconst (v := 2) dL_law_677 (by decide) rfl ?_
  refine wp_iadd dL_law_678 rfl ?_
  refine wx_iald dL_law_679 rfl rfl (nIx ixs2 (by omega)) (by show i + 2 < s.2.2.1.1; omega) rfl ?_
  refine wn_callV2i dL_law_680 rRL_77 (rcv_of o10 rfl) (Nat.le_of_ble_eq_true rfl) rfl rfl (Nat.le_of_ble_eq_true rfl) rfl (k_behind (d := d) hI) (fun y t hq => ?_)
  obtain ⟨⟨e0, e1⟩, hq⟩ := hq
  have ht : t.2.2.1.1 = L := e1.trans hs
  refine wp_aload_n dL_law_683 rfl rfl ?_
  refine wp_aload_n dL_law_684 rfl rfl ?_
  refine wp_iload_n dL_law_685 rfl rfl ?_
  refine wp_iconst (v := 1) dL_law_686 (by decide) rfl ?_
  refine wp_iadd dL_law_687 rfl ?_
  refine wx_iald dL_law_688 rfl rfl (nIx ixs1 (by omega)) (by show i + 1 < t.2.2.1.1; omega) rfl ?_
  refine wp_aload_n dL_law_689 rfl rfl ?_
  refine wp_iload_n dL_law_690 rfl rfl ?_
  refine wp_iconst (v := 2) dL_law_691 (by decide) rfl ?_
  refine wp_iadd dL_law_692 rfl ?_
  refine wx_iald dL_law_693 rfl rfl (nIx ixs2 (by omega)) (by show i + 2 < t.2.2.1.1; omega) rfl ?_
  rw [e0]
  refine wn_callV2i dL_law_694 rRL_80 (rcv_of o40 rfl) (Nat.le_of_ble_eq_true rfl) rfl rfl (Nat.le_of_ble_eq_true rfl) rfl hq (fun z u hu => ?_)
  obtain ⟨ez, hI2, hK⟩ := hu
  exact wp_icmp_eq (t := 1506) dL_law_697 rfl rfl (fun _ => kk u hI2 hK) (fun hne => absurd ez.symm hne)
theorem a_whole {d L i : Nat} {s : Sn} {P : Option Av → St → Prop} (hs : s.2.2.1.1 = L) (hi : i + 6 ≤ L) (hL : L ≤ 3072) (hI : INV s) (kk : ∀ u, INV u → Ku s u → Wp (d + 9) ML_law 1506 [some (vR 0 0 0), some (vR 10 0 0), some (vR 40 0 0), some (vI (nI i))] [] (hN u) P) : Wp (d + 9) ML_law 702 [some (vR 0 0 0), some (vR 10 0 0), some (vR 40 0 0), some (vI (nI i))] [] (hN s) P := by
  refine wp_aload_n dL_law_702 rfl rfl ?_
  refine wn_callV0i dL_law_703 rRL_81 (rcv_of o10 rfl) (Nat.le_of_ble_eq_true rfl)  (Nat.le_of_ble_eq_true rfl) rfl (k_whole (d := d) hI) (fun y t hq => ?_)
  obtain ⟨⟨e0, e1⟩, hq⟩ := hq
  have ht : t.2.2.1.1 = L := e1.trans hs
  refine wp_aload_n dL_law_706 rfl rfl ?_
  refine wn_callV0i dL_law_707 rRL_84 (rcv_of o40 rfl) (Nat.le_of_ble_eq_true rfl)  (Nat.le_of_ble_eq_true rfl) rfl hq (fun z u hu => ?_)
  obtain ⟨ez, hI2, hK⟩ := hu
  exact wp_icmp_eq (t := 1506) dL_law_710 rfl rfl (fun _ => kk u hI2 hK) (fun hne => absurd ez.symm hne)
theorem a_frees {d L i : Nat} {s : Sn} {P : Option Av → St → Prop} (hs : s.2.2.1.1 = L) (hi : i + 6 ≤ L) (hL : L ≤ 3072) (hI : INV s) (kk : ∀ u, INV u → Ku s u → Wp (d + 9) ML_law 1506 [some (vR 0 0 0), some (vR 10 0 0), some (vR 40 0 0), some (vI (nI i))] [] (hN u) P) : Wp (d + 9) ML_law 715 [some (vR 0 0 0), some (vR 10 0 0), some (vR 40 0 0), some (vI (nI i))] [] (hN s) P := by
  refine wp_aload_n dL_law_715 rfl rfl ?_
  refine wp_aload_n dL_law_716 rfl rfl ?_
  refine wp_iload_n dL_law_717 rfl rfl ?_
  refine wp_iconst (v := 1) dL_law_718 (by decide) rfl ?_
  refine wp_iadd dL_law_719 rfl ?_
  refine wx_iald dL_law_720 rfl rfl (nIx ixs1 (by omega)) (by show i + 1 < s.2.2.1.1; omega) rfl ?_
  refine wp_aload_n dL_law_721 rfl rfl ?_
  refine wp_iload_n dL_law_722 rfl rfl ?_
  refine wp_iconst (v := 2) dL_law_723 (by decide) rfl ?_
  refine wp_iadd dL_law_724 rfl ?_
  refine wx_iald dL_law_725 rfl rfl (nIx ixs2 (by omega)) (by show i + 2 < s.2.2.1.1; omega) rfl ?_
  refine wn_callV2i dL_law_726 rRL_85 (rcv_of o10 rfl) (Nat.le_of_ble_eq_true rfl) rfl rfl (Nat.le_of_ble_eq_true rfl) rfl (k_frees (d := d) hI) (fun y t hq => ?_)
  obtain ⟨⟨e0, e1⟩, hq⟩ := hq
  have ht : t.2.2.1.1 = L := e1.trans hs
  refine wp_aload_n dL_law_729 rfl rfl ?_
  refine wp_aload_n dL_law_730 rfl rfl ?_
  refine wp_iload_n dL_law_731 rfl rfl ?_
  refine wp_iconst (v := 1) dL_law_732 (by decide) rfl ?_
  refine wp_iadd dL_law_733 rfl ?_
  refine wx_iald dL_law_734 rfl rfl (nIx ixs1 (by omega)) (by show i + 1 < t.2.2.1.1; omega) rfl ?_
  refine wp_aload_n dL_law_735 rfl rfl ?_
  refine wp_iload_n dL_law_736 rfl rfl ?_
  refine wp_iconst (v := 2) dL_law_737 (by decide) rfl ?_
  refine wp_iadd dL_law_738 rfl ?_
  refine wx_iald dL_law_739 rfl rfl (nIx ixs2 (by omega)) (by show i + 2 < t.2.2.1.1; omega) rfl ?_
  rw [e0]
  refine wn_callV2i dL_law_740 rRL_88 (rcv_of o40 rfl) (Nat.le_of_ble_eq_true rfl) rfl rfl (Nat.le_of_ble_eq_true rfl) rfl hq (fun z u hu => ?_)
  obtain ⟨ez, hI2, hK⟩ := hu
  exact wp_icmp_eq (t := 1506) dL_law_743 rfl rfl (fun _ => kk u hI2 hK) (fun hne => absurd ez.symm hne)
theorem a_lost {d L i : Nat} {s : Sn} {P : Option Av → St → Prop} (hs : s.2.2.1.1 = L) (hi : i + 6 ≤ L) (hL : L ≤ 3072) (hI : INV s) (kk : ∀ u, INV u → Ku s u → Wp (d + 9) ML_law 1506 [some (vR 0 0 0), some (vR 10 0 0), some (vR 40 0 0), some (vI (nI i))] [] (hN u) P) : Wp (d + 9) ML_law 748 [some (vR 0 0 0), some (vR 10 0 0), some (vR 40 0 0), some (vI (nI i))] [] (hN s) P := by
  refine wp_aload_n dL_law_748 rfl rfl ?_
  refine wp_aload_n dL_law_749 rfl rfl ?_
  refine wp_iload_n dL_law_750 rfl rfl ?_
  refine wp_iconst (v := 1) dL_law_751 (by decide) rfl ?_
  refine wp_iadd dL_law_752 rfl ?_
  refine wx_iald dL_law_753 rfl rfl (nIx ixs1 (by omega)) (by show i + 1 < s.2.2.1.1; omega) rfl ?_
  refine wn_callV1i dL_law_754 rRL_89 (rcv_of o10 rfl) (Nat.le_of_ble_eq_true rfl) rfl (Nat.le_of_ble_eq_true rfl) rfl (k_lost (d := d) hI) (fun y t hq => ?_)
  obtain ⟨⟨e0, e1⟩, hq⟩ := hq
  have ht : t.2.2.1.1 = L := e1.trans hs
  refine wp_aload_n dL_law_757 rfl rfl ?_
  refine wp_aload_n dL_law_758 rfl rfl ?_
  refine wp_iload_n dL_law_759 rfl rfl ?_
  refine wp_iconst (v := 1) dL_law_760 (by decide) rfl ?_
  refine wp_iadd dL_law_761 rfl ?_
  refine wx_iald dL_law_762 rfl rfl (nIx ixs1 (by omega)) (by show i + 1 < t.2.2.1.1; omega) rfl ?_
  rw [e0]
  refine wn_callV1i dL_law_763 rRL_92 (rcv_of o40 rfl) (Nat.le_of_ble_eq_true rfl) rfl (Nat.le_of_ble_eq_true rfl) rfl hq (fun z u hu => ?_)
  obtain ⟨ez, hI2, hK⟩ := hu
  exact wp_icmp_eq (t := 1506) dL_law_766 rfl rfl (fun _ => kk u hI2 hK) (fun hne => absurd ez.symm hne)
theorem a_wider {d L i : Nat} {s : Sn} {P : Option Av → St → Prop} (hs : s.2.2.1.1 = L) (hi : i + 6 ≤ L) (hL : L ≤ 3072) (hI : INV s) (kk : ∀ u, INV u → Ku s u → Wp (d + 9) ML_law 1506 [some (vR 0 0 0), some (vR 10 0 0), some (vR 40 0 0), some (vI (nI i))] [] (hN u) P) : Wp (d + 9) ML_law 771 [some (vR 0 0 0), some (vR 10 0 0), some (vR 40 0 0), some (vI (nI i))] [] (hN s) P := by
  refine wp_aload_n dL_law_771 rfl rfl ?_
  refine wp_aload_n dL_law_772 rfl rfl ?_
  refine wp_iload_n dL_law_773 rfl rfl ?_
  refine wp_iconst (v := 1) dL_law_774 (by decide) rfl ?_
  refine wp_iadd dL_law_775 rfl ?_
  refine wx_iald dL_law_776 rfl rfl (nIx ixs1 (by omega)) (by show i + 1 < s.2.2.1.1; omega) rfl ?_
  refine wp_aload_n dL_law_777 rfl rfl ?_
  refine wp_iload_n dL_law_778 rfl rfl ?_
  refine wp_iconst (v := 2) dL_law_779 (by decide) rfl ?_
  refine wp_iadd dL_law_780 rfl ?_
  refine wx_iald dL_law_781 rfl rfl (nIx ixs2 (by omega)) (by show i + 2 < s.2.2.1.1; omega) rfl ?_
  refine wn_callV2i dL_law_782 rRL_93 (rcv_of o10 rfl) (Nat.le_of_ble_eq_true rfl) rfl rfl (Nat.le_of_ble_eq_true rfl) rfl (k_wider (d := d) hI) (fun y t hq => ?_)
  obtain ⟨⟨e0, e1⟩, hq⟩ := hq
  have ht : t.2.2.1.1 = L := e1.trans hs
  refine wp_aload_n dL_law_785 rfl rfl ?_
  refine wp_aload_n dL_law_786 rfl rfl ?_
  refine wp_iload_n dL_law_787 rfl rfl ?_
  refine wp_iconst (v := 1) dL_law_788 (by decide) rfl ?_
  refine wp_iadd dL_law_789 rfl ?_
  refine wx_iald dL_law_790 rfl rfl (nIx ixs1 (by omega)) (by show i + 1 < t.2.2.1.1; omega) rfl ?_
  refine wp_aload_n dL_law_791 rfl rfl ?_
  refine wp_iload_n dL_law_792 rfl rfl ?_
  refine wp_iconst (v := 2) dL_law_793 (by decide) rfl ?_
  refine wp_iadd dL_law_794 rfl ?_
  refine wx_iald dL_law_795 rfl rfl (nIx ixs2 (by omega)) (by show i + 2 < t.2.2.1.1; omega) rfl ?_
  rw [e0]
  refine wn_callV2i dL_law_796 rRL_96 (rcv_of o40 rfl) (Nat.le_of_ble_eq_true rfl) rfl rfl (Nat.le_of_ble_eq_true rfl) rfl hq (fun z u hu => ?_)
  obtain ⟨ez, hI2, hK⟩ := hu
  exact wp_icmp_eq (t := 1506) dL_law_799 rfl rfl (fun _ => kk u hI2 hK) (fun hne => absurd ez.symm hne)
theorem a_opened {d L i : Nat} {s : Sn} {P : Option Av → St → Prop} (hs : s.2.2.1.1 = L) (hi : i + 6 ≤ L) (hL : L ≤ 3072) (hI : INV s) (kk : ∀ u, INV u → Ku s u → Wp (d + 9) ML_law 1506 [some (vR 0 0 0), some (vR 10 0 0), some (vR 40 0 0), some (vI (nI i))] [] (hN u) P) : Wp (d + 9) ML_law 804 [some (vR 0 0 0), some (vR 10 0 0), some (vR 40 0 0), some (vI (nI i))] [] (hN s) P := by
  refine wp_aload_n dL_law_804 rfl rfl ?_
  refine wp_aload_n dL_law_805 rfl rfl ?_
  refine wp_iload_n dL_law_806 rfl rfl ?_
  refine wp_iconst (v := 1) dL_law_807 (by decide) rfl ?_
  refine wp_iadd dL_law_808 rfl ?_
  refine wx_iald dL_law_809 rfl rfl (nIx ixs1 (by omega)) (by show i + 1 < s.2.2.1.1; omega) rfl ?_
  refine wn_callV1i dL_law_810 rRL_97 (rcv_of o10 rfl) (Nat.le_of_ble_eq_true rfl) rfl (Nat.le_of_ble_eq_true rfl) rfl (k_opened (d := d) hI) (fun y t hq => ?_)
  obtain ⟨⟨e0, e1⟩, hq⟩ := hq
  have ht : t.2.2.1.1 = L := e1.trans hs
  refine wp_aload_n dL_law_813 rfl rfl ?_
  refine wp_aload_n dL_law_814 rfl rfl ?_
  refine wp_iload_n dL_law_815 rfl rfl ?_
  refine wp_iconst (v := 1) dL_law_816 (by decide) rfl ?_
  refine wp_iadd dL_law_817 rfl ?_
  refine wx_iald dL_law_818 rfl rfl (nIx ixs1 (by omega)) (by show i + 1 < t.2.2.1.1; omega) rfl ?_
  rw [e0]
  refine wn_callV1i dL_law_819 rRL_100 (rcv_of o40 rfl) (Nat.le_of_ble_eq_true rfl) rfl (Nat.le_of_ble_eq_true rfl) rfl hq (fun z u hu => ?_)
  obtain ⟨ez, hI2, hK⟩ := hu
  exact wp_icmp_eq (t := 1506) dL_law_822 rfl rfl (fun _ => kk u hI2 hK) (fun hne => absurd ez.symm hne)
theorem a_rolled {d L i : Nat} {s : Sn} {P : Option Av → St → Prop} (hs : s.2.2.1.1 = L) (hi : i + 6 ≤ L) (hL : L ≤ 3072) (hI : INV s) (kk : ∀ u, INV u → Ku s u → Wp (d + 9) ML_law 1506 [some (vR 0 0 0), some (vR 10 0 0), some (vR 40 0 0), some (vI (nI i))] [] (hN u) P) : Wp (d + 9) ML_law 827 [some (vR 0 0 0), some (vR 10 0 0), some (vR 40 0 0), some (vI (nI i))] [] (hN s) P := by
  refine wp_aload_n dL_law_827 rfl rfl ?_
  refine wp_aload_n dL_law_828 rfl rfl ?_
  refine wp_iload_n dL_law_829 rfl rfl ?_
  refine wp_iconst (v := 1) dL_law_830 (by decide) rfl ?_
  refine wp_iadd dL_law_831 rfl ?_
  refine wx_iald dL_law_832 rfl rfl (nIx ixs1 (by omega)) (by show i + 1 < s.2.2.1.1; omega) rfl ?_
  refine wp_aload_n dL_law_833 rfl rfl ?_
  refine wp_iload_n dL_law_834 rfl rfl ?_
  refine wp_iconst (v := 2) dL_law_835 (by decide) rfl ?_
  refine wp_iadd dL_law_836 rfl ?_
  refine wx_iald dL_law_837 rfl rfl (nIx ixs2 (by omega)) (by show i + 2 < s.2.2.1.1; omega) rfl ?_
  refine wn_callV2i dL_law_838 rRL_101 (rcv_of o10 rfl) (Nat.le_of_ble_eq_true rfl) rfl rfl (Nat.le_of_ble_eq_true rfl) rfl (k_rolled (d := d) hI) (fun y t hq => ?_)
  obtain ⟨⟨e0, e1⟩, hq⟩ := hq
  have ht : t.2.2.1.1 = L := e1.trans hs
  refine wp_aload_n dL_law_841 rfl rfl ?_
  refine wp_aload_n dL_law_842 rfl rfl ?_
  refine wp_iload_n dL_law_843 rfl rfl ?_
  refine wp_iconst (v := 1) dL_law_844 (by decide) rfl ?_
  refine wp_iadd dL_law_845 rfl ?_
  refine wx_iald dL_law_846 rfl rfl (nIx ixs1 (by omega)) (by show i + 1 < t.2.2.1.1; omega) rfl ?_
  refine wp_aload_n dL_law_847 rfl rfl ?_
  refine wp_iload_n dL_law_848 rfl rfl ?_
  refine wp_iconst (v := 2) dL_law_849 (by decide) rfl ?_
  refine wp_iadd dL_law_850 rfl ?_
  refine wx_iald dL_law_851 rfl rfl (nIx ixs2 (by omega)) (by show i + 2 < t.2.2.1.1; omega) rfl ?_
  rw [e0]
  refine wn_callV2i dL_law_852 rRL_104 (rcv_of o40 rfl) (Nat.le_of_ble_eq_true rfl) rfl rfl (Nat.le_of_ble_eq_true rfl) rfl hq (fun z u hu => ?_)
  obtain ⟨ez, hI2, hK⟩ := hu
  exact wp_icmp_eq (t := 1506) dL_law_855 rfl rfl (fun _ => kk u hI2 hK) (fun hne => absurd ez.symm hne)
theorem a_looked {d L i : Nat} {s : Sn} {P : Option Av → St → Prop} (hs : s.2.2.1.1 = L) (hi : i + 6 ≤ L) (hL : L ≤ 3072) (hI : INV s) (kk : ∀ u, INV u → Ku s u → Wp (d + 9) ML_law 1506 [some (vR 0 0 0), some (vR 10 0 0), some (vR 40 0 0), some (vI (nI i))] [] (hN u) P) : Wp (d + 9) ML_law 860 [some (vR 0 0 0), some (vR 10 0 0), some (vR 40 0 0), some (vI (nI i))] [] (hN s) P := by
  refine wp_aload_n dL_law_860 rfl rfl ?_
  refine wp_aload_n dL_law_861 rfl rfl ?_
  refine wp_iload_n dL_law_862 rfl rfl ?_
  refine wp_iconst (v := 1) dL_law_863 (by decide) rfl ?_
  refine wp_iadd dL_law_864 rfl ?_
  refine wx_iald dL_law_865 rfl rfl (nIx ixs1 (by omega)) (by show i + 1 < s.2.2.1.1; omega) rfl ?_
  refine wp_aload_n dL_law_866 rfl rfl ?_
  refine wp_iload_n dL_law_867 rfl rfl ?_
  refine wp_iconst (v := 2) dL_law_868 (by decide) rfl ?_
  refine wp_iadd dL_law_869 rfl ?_
  refine wx_iald dL_law_870 rfl rfl (nIx ixs2 (by omega)) (by show i + 2 < s.2.2.1.1; omega) rfl ?_
  refine wp_aload_n dL_law_871 rfl rfl ?_
  refine wp_iload_n dL_law_872 rfl rfl ?_
  refine wp_iconst (v := 3) dL_law_873 (by decide) rfl ?_
  refine wp_iadd dL_law_874 rfl ?_
  refine wx_iald dL_law_875 rfl rfl (nIx ixs3 (by omega)) (by show i + 3 < s.2.2.1.1; omega) rfl ?_
  refine wn_callV3i dL_law_876 rRL_105 (rcv_of o10 rfl) (Nat.le_of_ble_eq_true rfl) rfl rfl rfl (Nat.le_of_ble_eq_true rfl) rfl (k_looked (d := d) hI) (fun y t hq => ?_)
  obtain ⟨⟨e0, e1⟩, hq⟩ := hq
  have ht : t.2.2.1.1 = L := e1.trans hs
  refine wp_aload_n dL_law_879 rfl rfl ?_
  refine wp_aload_n dL_law_880 rfl rfl ?_
  refine wp_iload_n dL_law_881 rfl rfl ?_
  refine wp_iconst (v := 1) dL_law_882 (by decide) rfl ?_
  refine wp_iadd dL_law_883 rfl ?_
  refine wx_iald dL_law_884 rfl rfl (nIx ixs1 (by omega)) (by show i + 1 < t.2.2.1.1; omega) rfl ?_
  refine wp_aload_n dL_law_885 rfl rfl ?_
  refine wp_iload_n dL_law_886 rfl rfl ?_
  refine wp_iconst (v := 2) dL_law_887 (by decide) rfl ?_
  refine wp_iadd dL_law_888 rfl ?_
  refine wx_iald dL_law_889 rfl rfl (nIx ixs2 (by omega)) (by show i + 2 < t.2.2.1.1; omega) rfl ?_
  refine wp_aload_n dL_law_890 rfl rfl ?_
  refine wp_iload_n dL_law_891 rfl rfl ?_
  refine wp_iconst (v := 3) dL_law_892 (by decide) rfl ?_
  refine wp_iadd dL_law_893 rfl ?_
  refine wx_iald dL_law_894 rfl rfl (nIx ixs3 (by omega)) (by show i + 3 < t.2.2.1.1; omega) rfl ?_
  rw [e0]
  refine wn_callV3i dL_law_895 rRL_108 (rcv_of o40 rfl) (Nat.le_of_ble_eq_true rfl) rfl rfl rfl (Nat.le_of_ble_eq_true rfl) rfl hq (fun z u hu => ?_)
  obtain ⟨ez, hI2, hK⟩ := hu
  exact wp_icmp_eq (t := 1506) dL_law_898 rfl rfl (fun _ => kk u hI2 hK) (fun hne => absurd ez.symm hne)
theorem a_fee {d L i : Nat} {s : Sn} {P : Option Av → St → Prop} (hs : s.2.2.1.1 = L) (hi : i + 6 ≤ L) (hL : L ≤ 3072) (hI : INV s) (kk : ∀ u, INV u → Ku s u → Wp (d + 9) ML_law 1506 [some (vR 0 0 0), some (vR 10 0 0), some (vR 40 0 0), some (vI (nI i))] [] (hN u) P) : Wp (d + 9) ML_law 903 [some (vR 0 0 0), some (vR 10 0 0), some (vR 40 0 0), some (vI (nI i))] [] (hN s) P := by
  refine wp_aload_n dL_law_903 rfl rfl ?_
  refine wn_callV0i dL_law_904 rRL_109 (rcv_of o10 rfl) (Nat.le_of_ble_eq_true rfl)  (Nat.le_of_ble_eq_true rfl) rfl (k_fee (d := d) hI) (fun y t hq => ?_)
  obtain ⟨⟨e0, e1⟩, hq⟩ := hq
  have ht : t.2.2.1.1 = L := e1.trans hs
  refine wp_aload_n dL_law_907 rfl rfl ?_
  refine wn_callV0i dL_law_908 rRL_112 (rcv_of o40 rfl) (Nat.le_of_ble_eq_true rfl)  (Nat.le_of_ble_eq_true rfl) rfl hq (fun z u hu => ?_)
  obtain ⟨ez, hI2, hK⟩ := hu
  exact wp_icmp_eq (t := 1506) dL_law_911 rfl rfl (fun _ => kk u hI2 hK) (fun hne => absurd ez.symm hne)
theorem a_fine {d L i : Nat} {s : Sn} {P : Option Av → St → Prop} (hs : s.2.2.1.1 = L) (hi : i + 6 ≤ L) (hL : L ≤ 3072) (hI : INV s) (kk : ∀ u, INV u → Ku s u → Wp (d + 9) ML_law 1506 [some (vR 0 0 0), some (vR 10 0 0), some (vR 40 0 0), some (vI (nI i))] [] (hN u) P) : Wp (d + 9) ML_law 916 [some (vR 0 0 0), some (vR 10 0 0), some (vR 40 0 0), some (vI (nI i))] [] (hN s) P := by
  refine wp_aload_n dL_law_916 rfl rfl ?_
  refine wp_aload_n dL_law_917 rfl rfl ?_
  refine wp_iload_n dL_law_918 rfl rfl ?_
  refine wp_iconst (v := 1) dL_law_919 (by decide) rfl ?_
  refine wp_iadd dL_law_920 rfl ?_
  refine wx_iald dL_law_921 rfl rfl (nIx ixs1 (by omega)) (by show i + 1 < s.2.2.1.1; omega) rfl ?_
  refine wn_callV1i dL_law_922 rRL_113 (rcv_of o10 rfl) (Nat.le_of_ble_eq_true rfl) rfl (Nat.le_of_ble_eq_true rfl) rfl (k_fine (d := d) hI) (fun y t hq => ?_)
  obtain ⟨⟨e0, e1⟩, hq⟩ := hq
  have ht : t.2.2.1.1 = L := e1.trans hs
  refine wp_aload_n dL_law_925 rfl rfl ?_
  refine wp_aload_n dL_law_926 rfl rfl ?_
  refine wp_iload_n dL_law_927 rfl rfl ?_
  refine wp_iconst (v := 1) dL_law_928 (by decide) rfl ?_
  refine wp_iadd dL_law_929 rfl ?_
  refine wx_iald dL_law_930 rfl rfl (nIx ixs1 (by omega)) (by show i + 1 < t.2.2.1.1; omega) rfl ?_
  rw [e0]
  refine wn_callV1i dL_law_931 rRL_116 (rcv_of o40 rfl) (Nat.le_of_ble_eq_true rfl) rfl (Nat.le_of_ble_eq_true rfl) rfl hq (fun z u hu => ?_)
  obtain ⟨ez, hI2, hK⟩ := hu
  exact wp_icmp_eq (t := 1506) dL_law_934 rfl rfl (fun _ => kk u hI2 hK) (fun hne => absurd ez.symm hne)
theorem a_feed {d L i : Nat} {s : Sn} {P : Option Av → St → Prop} (hs : s.2.2.1.1 = L) (hi : i + 6 ≤ L) (hL : L ≤ 3072) (hI : INV s) (kk : ∀ u, INV u → Ku s u → Wp (d + 9) ML_law 1506 [some (vR 0 0 0), some (vR 10 0 0), some (vR 40 0 0), some (vI (nI i))] [] (hN u) P) : Wp (d + 9) ML_law 939 [some (vR 0 0 0), some (vR 10 0 0), some (vR 40 0 0), some (vI (nI i))] [] (hN s) P := by
  refine wp_aload_n dL_law_939 rfl rfl ?_
  refine wp_aload_n dL_law_940 rfl rfl ?_
  refine wp_iload_n dL_law_941 rfl rfl ?_
  refine wp_iconst (v := 1) dL_law_942 (by decide) rfl ?_
  refine wp_iadd dL_law_943 rfl ?_
  refine wx_iald dL_law_944 rfl rfl (nIx ixs1 (by omega)) (by show i + 1 < s.2.2.1.1; omega) rfl ?_
  refine wp_aload_n dL_law_945 rfl rfl ?_
  refine wp_iload_n dL_law_946 rfl rfl ?_
  refine wp_iconst (v := 2) dL_law_947 (by decide) rfl ?_
  refine wp_iadd dL_law_948 rfl ?_
  refine wx_iald dL_law_949 rfl rfl (nIx ixs2 (by omega)) (by show i + 2 < s.2.2.1.1; omega) rfl ?_
  refine wp_aload_n dL_law_950 rfl rfl ?_
  refine wp_iload_n dL_law_951 rfl rfl ?_
  refine wp_iconst (v := 3) dL_law_952 (by decide) rfl ?_
  refine wp_iadd dL_law_953 rfl ?_
  refine wx_iald dL_law_954 rfl rfl (nIx ixs3 (by omega)) (by show i + 3 < s.2.2.1.1; omega) rfl ?_
  refine wn_callV3i dL_law_955 rRL_117 (rcv_of o10 rfl) (Nat.le_of_ble_eq_true rfl) rfl rfl rfl (Nat.le_of_ble_eq_true rfl) rfl (k_feed (d := d) hI) (fun y t hq => ?_)
  obtain ⟨⟨e0, e1⟩, hq⟩ := hq
  have ht : t.2.2.1.1 = L := e1.trans hs
  refine wp_aload_n dL_law_958 rfl rfl ?_
  refine wp_aload_n dL_law_959 rfl rfl ?_
  refine wp_iload_n dL_law_960 rfl rfl ?_
  refine wp_iconst (v := 1) dL_law_961 (by decide) rfl ?_
  refine wp_iadd dL_law_962 rfl ?_
  refine wx_iald dL_law_963 rfl rfl (nIx ixs1 (by omega)) (by show i + 1 < t.2.2.1.1; omega) rfl ?_
  refine wp_aload_n dL_law_964 rfl rfl ?_
  refine wp_iload_n dL_law_965 rfl rfl ?_
  refine wp_iconst (v := 2) dL_law_966 (by decide) rfl ?_
  refine wp_iadd dL_law_967 rfl ?_
  refine wx_iald dL_law_968 rfl rfl (nIx ixs2 (by omega)) (by show i + 2 < t.2.2.1.1; omega) rfl ?_
  refine wp_aload_n dL_law_969 rfl rfl ?_
  refine wp_iload_n dL_law_970 rfl rfl ?_
  refine wp_iconst (v := 3) dL_law_971 (by decide) rfl ?_
  refine wp_iadd dL_law_972 rfl ?_
  refine wx_iald dL_law_973 rfl rfl (nIx ixs3 (by omega)) (by show i + 3 < t.2.2.1.1; omega) rfl ?_
  rw [e0]
  refine wn_callV3i dL_law_974 rRL_120 (rcv_of o40 rfl) (Nat.le_of_ble_eq_true rfl) rfl rfl rfl (Nat.le_of_ble_eq_true rfl) rfl hq (fun z u hu => ?_)
  obtain ⟨ez, hI2, hK⟩ := hu
  exact wp_icmp_eq (t := 1506) dL_law_977 rfl rfl (fun _ => kk u hI2 hK) (fun hne => absurd ez.symm hne)
theorem a_trim {d L i : Nat} {s : Sn} {P : Option Av → St → Prop} (hs : s.2.2.1.1 = L) (hi : i + 6 ≤ L) (hL : L ≤ 3072) (hI : INV s) (kk : ∀ u, INV u → Ku s u → Wp (d + 9) ML_law 1506 [some (vR 0 0 0), some (vR 10 0 0), some (vR 40 0 0), some (vI (nI i))] [] (hN u) P) : Wp (d + 9) ML_law 982 [some (vR 0 0 0), some (vR 10 0 0), some (vR 40 0 0), some (vI (nI i))] [] (hN s) P := by
  refine wp_aload_n dL_law_982 rfl rfl ?_
  refine wp_aload_n dL_law_983 rfl rfl ?_
  refine wp_iload_n dL_law_984 rfl rfl ?_
  refine wp_iconst (v := 1) dL_law_985 (by decide) rfl ?_
  refine wp_iadd dL_law_986 rfl ?_
  refine wx_iald dL_law_987 rfl rfl (nIx ixs1 (by omega)) (by show i + 1 < s.2.2.1.1; omega) rfl ?_
  refine wn_callV1i dL_law_988 rRL_121 (rcv_of o10 rfl) (Nat.le_of_ble_eq_true rfl) rfl (Nat.le_of_ble_eq_true rfl) rfl (k_trim (d := d) hI) (fun y t hq => ?_)
  obtain ⟨⟨e0, e1⟩, hq⟩ := hq
  have ht : t.2.2.1.1 = L := e1.trans hs
  refine wp_aload_n dL_law_991 rfl rfl ?_
  refine wp_aload_n dL_law_992 rfl rfl ?_
  refine wp_iload_n dL_law_993 rfl rfl ?_
  refine wp_iconst (v := 1) dL_law_994 (by decide) rfl ?_
  refine wp_iadd dL_law_995 rfl ?_
  refine wx_iald dL_law_996 rfl rfl (nIx ixs1 (by omega)) (by show i + 1 < t.2.2.1.1; omega) rfl ?_
  rw [e0]
  refine wn_callV1i dL_law_997 rRL_124 (rcv_of o40 rfl) (Nat.le_of_ble_eq_true rfl) rfl (Nat.le_of_ble_eq_true rfl) rfl hq (fun z u hu => ?_)
  obtain ⟨ez, hI2, hK⟩ := hu
  exact wp_icmp_eq (t := 1506) dL_law_1000 rfl rfl (fun _ => kk u hI2 hK) (fun hne => absurd ez.symm hne)
theorem a_text {d L i : Nat} {s : Sn} {P : Option Av → St → Prop} (hs : s.2.2.1.1 = L) (hi : i + 6 ≤ L) (hL : L ≤ 3072) (hI : INV s) (kk : ∀ u, INV u → Ku s u → Wp (d + 9) ML_law 1506 [some (vR 0 0 0), some (vR 10 0 0), some (vR 40 0 0), some (vI (nI i))] [] (hN u) P) : Wp (d + 9) ML_law 1005 [some (vR 0 0 0), some (vR 10 0 0), some (vR 40 0 0), some (vI (nI i))] [] (hN s) P := by
  refine wp_aload_n dL_law_1005 rfl rfl ?_
  refine wn_callV0i dL_law_1006 rRL_125 (rcv_of o10 rfl) (Nat.le_of_ble_eq_true rfl)  (Nat.le_of_ble_eq_true rfl) rfl (k_text (d := d) hI) (fun y t hq => ?_)
  obtain ⟨⟨e0, e1⟩, hq⟩ := hq
  have ht : t.2.2.1.1 = L := e1.trans hs
  refine wp_aload_n dL_law_1009 rfl rfl ?_
  refine wn_callV0i dL_law_1010 rRL_128 (rcv_of o40 rfl) (Nat.le_of_ble_eq_true rfl)  (Nat.le_of_ble_eq_true rfl) rfl hq (fun z u hu => ?_)
  obtain ⟨ez, hI2, hK⟩ := hu
  exact wp_icmp_eq (t := 1506) dL_law_1013 rfl rfl (fun _ => kk u hI2 hK) (fun hne => absurd ez.symm hne)
theorem a_textTold {d L i : Nat} {s : Sn} {P : Option Av → St → Prop} (hs : s.2.2.1.1 = L) (hi : i + 6 ≤ L) (hL : L ≤ 3072) (hI : INV s) (kk : ∀ u, INV u → Ku s u → Wp (d + 9) ML_law 1506 [some (vR 0 0 0), some (vR 10 0 0), some (vR 40 0 0), some (vI (nI i))] [] (hN u) P) : Wp (d + 9) ML_law 1018 [some (vR 0 0 0), some (vR 10 0 0), some (vR 40 0 0), some (vI (nI i))] [] (hN s) P := by
  refine wp_aload_n dL_law_1018 rfl rfl ?_
  refine wp_aload_n dL_law_1019 rfl rfl ?_
  refine wp_iload_n dL_law_1020 rfl rfl ?_
  refine wp_iconst (v := 1) dL_law_1021 (by decide) rfl ?_
  refine wp_iadd dL_law_1022 rfl ?_
  refine wx_iald dL_law_1023 rfl rfl (nIx ixs1 (by omega)) (by show i + 1 < s.2.2.1.1; omega) rfl ?_
  refine wp_aload_n dL_law_1024 rfl rfl ?_
  refine wp_iload_n dL_law_1025 rfl rfl ?_
  refine wp_iconst (v := 2) dL_law_1026 (by decide) rfl ?_
  refine wp_iadd dL_law_1027 rfl ?_
  refine wx_iald dL_law_1028 rfl rfl (nIx ixs2 (by omega)) (by show i + 2 < s.2.2.1.1; omega) rfl ?_
  refine wn_callV2i dL_law_1029 rRL_129 (rcv_of o10 rfl) (Nat.le_of_ble_eq_true rfl) rfl rfl (Nat.le_of_ble_eq_true rfl) rfl (k_textTold (d := d) hI) (fun y t hq => ?_)
  obtain ⟨⟨e0, e1⟩, hq⟩ := hq
  have ht : t.2.2.1.1 = L := e1.trans hs
  refine wp_aload_n dL_law_1032 rfl rfl ?_
  refine wp_aload_n dL_law_1033 rfl rfl ?_
  refine wp_iload_n dL_law_1034 rfl rfl ?_
  refine wp_iconst (v := 1) dL_law_1035 (by decide) rfl ?_
  refine wp_iadd dL_law_1036 rfl ?_
  refine wx_iald dL_law_1037 rfl rfl (nIx ixs1 (by omega)) (by show i + 1 < t.2.2.1.1; omega) rfl ?_
  refine wp_aload_n dL_law_1038 rfl rfl ?_
  refine wp_iload_n dL_law_1039 rfl rfl ?_
  refine wp_iconst (v := 2) dL_law_1040 (by decide) rfl ?_
  refine wp_iadd dL_law_1041 rfl ?_
  refine wx_iald dL_law_1042 rfl rfl (nIx ixs2 (by omega)) (by show i + 2 < t.2.2.1.1; omega) rfl ?_
  rw [e0]
  refine wn_callV2i dL_law_1043 rRL_132 (rcv_of o40 rfl) (Nat.le_of_ble_eq_true rfl) rfl rfl (Nat.le_of_ble_eq_true rfl) rfl hq (fun z u hu => ?_)
  obtain ⟨ez, hI2, hK⟩ := hu
  exact wp_icmp_eq (t := 1506) dL_law_1046 rfl rfl (fun _ => kk u hI2 hK) (fun hne => absurd ez.symm hne)
theorem a_why {d L i : Nat} {s : Sn} {P : Option Av → St → Prop} (hs : s.2.2.1.1 = L) (hi : i + 6 ≤ L) (hL : L ≤ 3072) (hI : INV s) (kk : ∀ u, INV u → Ku s u → Wp (d + 9) ML_law 1506 [some (vR 0 0 0), some (vR 10 0 0), some (vR 40 0 0), some (vI (nI i))] [] (hN u) P) : Wp (d + 9) ML_law 1051 [some (vR 0 0 0), some (vR 10 0 0), some (vR 40 0 0), some (vI (nI i))] [] (hN s) P := by
  refine wp_aload_n dL_law_1051 rfl rfl ?_
  refine wp_aload_n dL_law_1052 rfl rfl ?_
  refine wp_iload_n dL_law_1053 rfl rfl ?_
  refine wp_iconst (v := 1) dL_law_1054 (by decide) rfl ?_
  refine wp_iadd dL_law_1055 rfl ?_
  refine wx_iald dL_law_1056 rfl rfl (nIx ixs1 (by omega)) (by show i + 1 < s.2.2.1.1; omega) rfl ?_
  refine wn_callV1i dL_law_1057 rRL_133 (rcv_of o10 rfl) (Nat.le_of_ble_eq_true rfl) rfl (Nat.le_of_ble_eq_true rfl) rfl (k_why (d := d) hI) (fun y t hq => ?_)
  obtain ⟨⟨e0, e1⟩, hq⟩ := hq
  have ht : t.2.2.1.1 = L := e1.trans hs
  refine wp_aload_n dL_law_1060 rfl rfl ?_
  refine wp_aload_n dL_law_1061 rfl rfl ?_
  refine wp_iload_n dL_law_1062 rfl rfl ?_
  refine wp_iconst (v := 1) dL_law_1063 (by decide) rfl ?_
  refine wp_iadd dL_law_1064 rfl ?_
  refine wx_iald dL_law_1065 rfl rfl (nIx ixs1 (by omega)) (by show i + 1 < t.2.2.1.1; omega) rfl ?_
  rw [e0]
  refine wn_callV1i dL_law_1066 rRL_136 (rcv_of o40 rfl) (Nat.le_of_ble_eq_true rfl) rfl (Nat.le_of_ble_eq_true rfl) rfl hq (fun z u hu => ?_)
  obtain ⟨ez, hI2, hK⟩ := hu
  exact wp_icmp_eq (t := 1506) dL_law_1069 rfl rfl (fun _ => kk u hI2 hK) (fun hne => absurd ez.symm hne)
theorem a_sheet {d L i : Nat} {s : Sn} {P : Option Av → St → Prop} (hs : s.2.2.1.1 = L) (hi : i + 6 ≤ L) (hL : L ≤ 3072) (hI : INV s) (kk : ∀ u, INV u → Ku s u → Wp (d + 9) ML_law 1506 [some (vR 0 0 0), some (vR 10 0 0), some (vR 40 0 0), some (vI (nI i))] [] (hN u) P) : Wp (d + 9) ML_law 1074 [some (vR 0 0 0), some (vR 10 0 0), some (vR 40 0 0), some (vI (nI i))] [] (hN s) P := by
  refine wp_aload_n dL_law_1074 rfl rfl ?_
  refine wp_aload_n dL_law_1075 rfl rfl ?_
  refine wp_iload_n dL_law_1076 rfl rfl ?_
  refine wp_iconst (v := 1) dL_law_1077 (by decide) rfl ?_
  refine wp_iadd dL_law_1078 rfl ?_
  refine wx_iald dL_law_1079 rfl rfl (nIx ixs1 (by omega)) (by show i + 1 < s.2.2.1.1; omega) rfl ?_
  refine wp_aload_n dL_law_1080 rfl rfl ?_
  refine wp_iload_n dL_law_1081 rfl rfl ?_
  refine wp_iconst (v := 2) dL_law_1082 (by decide) rfl ?_
  refine wp_iadd dL_law_1083 rfl ?_
  refine wx_iald dL_law_1084 rfl rfl (nIx ixs2 (by omega)) (by show i + 2 < s.2.2.1.1; omega) rfl ?_
  refine wp_aload_n dL_law_1085 rfl rfl ?_
  refine wp_iload_n dL_law_1086 rfl rfl ?_
  refine wp_iconst (v := 3) dL_law_1087 (by decide) rfl ?_
  refine wp_iadd dL_law_1088 rfl ?_
  refine wx_iald dL_law_1089 rfl rfl (nIx ixs3 (by omega)) (by show i + 3 < s.2.2.1.1; omega) rfl ?_
  refine wn_callV3i dL_law_1090 rRL_137 (rcv_of o10 rfl) (Nat.le_of_ble_eq_true rfl) rfl rfl rfl (Nat.le_of_ble_eq_true rfl) rfl (k_sheet (d := d) hI) (fun y t hq => ?_)
  obtain ⟨⟨e0, e1⟩, hq⟩ := hq
  have ht : t.2.2.1.1 = L := e1.trans hs
  refine wp_aload_n dL_law_1093 rfl rfl ?_
  refine wp_aload_n dL_law_1094 rfl rfl ?_
  refine wp_iload_n dL_law_1095 rfl rfl ?_
  refine wp_iconst (v := 1) dL_law_1096 (by decide) rfl ?_
  refine wp_iadd dL_law_1097 rfl ?_
  refine wx_iald dL_law_1098 rfl rfl (nIx ixs1 (by omega)) (by show i + 1 < t.2.2.1.1; omega) rfl ?_
  refine wp_aload_n dL_law_1099 rfl rfl ?_
  refine wp_iload_n dL_law_1100 rfl rfl ?_
  refine wp_iconst (v := 2) dL_law_1101 (by decide) rfl ?_
  refine wp_iadd dL_law_1102 rfl ?_
  refine wx_iald dL_law_1103 rfl rfl (nIx ixs2 (by omega)) (by show i + 2 < t.2.2.1.1; omega) rfl ?_
  refine wp_aload_n dL_law_1104 rfl rfl ?_
  refine wp_iload_n dL_law_1105 rfl rfl ?_
  refine wp_iconst (v := 3) dL_law_1106 (by decide) rfl ?_
  refine wp_iadd dL_law_1107 rfl ?_
  refine wx_iald dL_law_1108 rfl rfl (nIx ixs3 (by omega)) (by show i + 3 < t.2.2.1.1; omega) rfl ?_
  rw [e0]
  refine wn_callV3i dL_law_1109 rRL_140 (rcv_of o40 rfl) (Nat.le_of_ble_eq_true rfl) rfl rfl rfl (Nat.le_of_ble_eq_true rfl) rfl hq (fun z u hu => ?_)
  obtain ⟨ez, hI2, hK⟩ := hu
  exact wp_icmp_eq (t := 1506) dL_law_1112 rfl rfl (fun _ => kk u hI2 hK) (fun hne => absurd ez.symm hne)
theorem a_mark {d L i : Nat} {s : Sn} {P : Option Av → St → Prop} (hs : s.2.2.1.1 = L) (hi : i + 6 ≤ L) (hL : L ≤ 3072) (hI : INV s) (kk : ∀ u, INV u → Ku s u → Wp (d + 9) ML_law 1506 [some (vR 0 0 0), some (vR 10 0 0), some (vR 40 0 0), some (vI (nI i))] [] (hN u) P) : Wp (d + 9) ML_law 1117 [some (vR 0 0 0), some (vR 10 0 0), some (vR 40 0 0), some (vI (nI i))] [] (hN s) P := by
  refine wp_aload_n dL_law_1117 rfl rfl ?_
  refine wp_aload_n dL_law_1118 rfl rfl ?_
  refine wp_iload_n dL_law_1119 rfl rfl ?_
  refine wp_iconst (v := 1) dL_law_1120 (by decide) rfl ?_
  refine wp_iadd dL_law_1121 rfl ?_
  refine wx_iald dL_law_1122 rfl rfl (nIx ixs1 (by omega)) (by show i + 1 < s.2.2.1.1; omega) rfl ?_
  refine wp_aload_n dL_law_1123 rfl rfl ?_
  refine wp_iload_n dL_law_1124 rfl rfl ?_
  refine wp_iconst (v := 2) dL_law_1125 (by decide) rfl ?_
  refine wp_iadd dL_law_1126 rfl ?_
  refine wx_iald dL_law_1127 rfl rfl (nIx ixs2 (by omega)) (by show i + 2 < s.2.2.1.1; omega) rfl ?_
  refine wp_aload_n dL_law_1128 rfl rfl ?_
  refine wp_iload_n dL_law_1129 rfl rfl ?_
  refine wp_iconst (v := 3) dL_law_1130 (by decide) rfl ?_
  refine wp_iadd dL_law_1131 rfl ?_
  refine wx_iald dL_law_1132 rfl rfl (nIx ixs3 (by omega)) (by show i + 3 < s.2.2.1.1; omega) rfl ?_
  refine wn_callV3i dL_law_1133 rRL_141 (rcv_of o10 rfl) (Nat.le_of_ble_eq_true rfl) rfl rfl rfl (Nat.le_of_ble_eq_true rfl) rfl (k_mark (d := d) hI) (fun y t hq => ?_)
  obtain ⟨⟨e0, e1⟩, hq⟩ := hq
  have ht : t.2.2.1.1 = L := e1.trans hs
  refine wp_aload_n dL_law_1136 rfl rfl ?_
  refine wp_aload_n dL_law_1137 rfl rfl ?_
  refine wp_iload_n dL_law_1138 rfl rfl ?_
  refine wp_iconst (v := 1) dL_law_1139 (by decide) rfl ?_
  refine wp_iadd dL_law_1140 rfl ?_
  refine wx_iald dL_law_1141 rfl rfl (nIx ixs1 (by omega)) (by show i + 1 < t.2.2.1.1; omega) rfl ?_
  refine wp_aload_n dL_law_1142 rfl rfl ?_
  refine wp_iload_n dL_law_1143 rfl rfl ?_
  refine wp_iconst (v := 2) dL_law_1144 (by decide) rfl ?_
  refine wp_iadd dL_law_1145 rfl ?_
  refine wx_iald dL_law_1146 rfl rfl (nIx ixs2 (by omega)) (by show i + 2 < t.2.2.1.1; omega) rfl ?_
  refine wp_aload_n dL_law_1147 rfl rfl ?_
  refine wp_iload_n dL_law_1148 rfl rfl ?_
  refine wp_iconst (v := 3) dL_law_1149 (by decide) rfl ?_
  refine wp_iadd dL_law_1150 rfl ?_
  refine wx_iald dL_law_1151 rfl rfl (nIx ixs3 (by omega)) (by show i + 3 < t.2.2.1.1; omega) rfl ?_
  rw [e0]
  refine wn_callV3i dL_law_1152 rRL_144 (rcv_of o40 rfl) (Nat.le_of_ble_eq_true rfl) rfl rfl rfl (Nat.le_of_ble_eq_true rfl) rfl hq (fun z u hu => ?_)
  obtain ⟨ez, hI2, hK⟩ := hu
  exact wp_icmp_eq (t := 1506) dL_law_1155 rfl rfl (fun _ => kk u hI2 hK) (fun hne => absurd ez.symm hne)
theorem a_pour {d L i : Nat} {s : Sn} {P : Option Av → St → Prop} (hs : s.2.2.1.1 = L) (hi : i + 6 ≤ L) (hL : L ≤ 3072) (hI : INV s) (kk : ∀ u, INV u → Ku s u → Wp (d + 9) ML_law 1506 [some (vR 0 0 0), some (vR 10 0 0), some (vR 40 0 0), some (vI (nI i))] [] (hN u) P) : Wp (d + 9) ML_law 1160 [some (vR 0 0 0), some (vR 10 0 0), some (vR 40 0 0), some (vI (nI i))] [] (hN s) P := by
  refine wp_aload_n dL_law_1160 rfl rfl ?_
  refine wp_aload_n dL_law_1161 rfl rfl ?_
  refine wp_iload_n dL_law_1162 rfl rfl ?_
  refine wp_iconst (v := 1) dL_law_1163 (by decide) rfl ?_
  refine wp_iadd dL_law_1164 rfl ?_
  refine wx_iald dL_law_1165 rfl rfl (nIx ixs1 (by omega)) (by show i + 1 < s.2.2.1.1; omega) rfl ?_
  refine wn_callV1i dL_law_1166 rRL_145 (rcv_of o10 rfl) (Nat.le_of_ble_eq_true rfl) rfl (Nat.le_of_ble_eq_true rfl) rfl (k_pour (d := d) hI) (fun y t hq => ?_)
  obtain ⟨⟨e0, e1⟩, hq⟩ := hq
  have ht : t.2.2.1.1 = L := e1.trans hs
  refine wp_aload_n dL_law_1169 rfl rfl ?_
  refine wp_aload_n dL_law_1170 rfl rfl ?_
  refine wp_iload_n dL_law_1171 rfl rfl ?_
  refine wp_iconst (v := 1) dL_law_1172 (by decide) rfl ?_
  refine wp_iadd dL_law_1173 rfl ?_
  refine wx_iald dL_law_1174 rfl rfl (nIx ixs1 (by omega)) (by show i + 1 < t.2.2.1.1; omega) rfl ?_
  rw [e0]
  refine wn_callV1i dL_law_1175 rRL_148 (rcv_of o40 rfl) (Nat.le_of_ble_eq_true rfl) rfl (Nat.le_of_ble_eq_true rfl) rfl hq (fun z u hu => ?_)
  obtain ⟨ez, hI2, hK⟩ := hu
  exact wp_icmp_eq (t := 1506) dL_law_1178 rfl rfl (fun _ => kk u hI2 hK) (fun hne => absurd ez.symm hne)
theorem a_reads {d L i : Nat} {s : Sn} {P : Option Av → St → Prop} (hs : s.2.2.1.1 = L) (hi : i + 6 ≤ L) (hL : L ≤ 3072) (hI : INV s) (kk : ∀ u, INV u → Ku s u → Wp (d + 9) ML_law 1506 [some (vR 0 0 0), some (vR 10 0 0), some (vR 40 0 0), some (vI (nI i))] [] (hN u) P) : Wp (d + 9) ML_law 1183 [some (vR 0 0 0), some (vR 10 0 0), some (vR 40 0 0), some (vI (nI i))] [] (hN s) P := by
  refine wp_aload_n dL_law_1183 rfl rfl ?_
  refine wp_aload_n dL_law_1184 rfl rfl ?_
  refine wp_iload_n dL_law_1185 rfl rfl ?_
  refine wp_iconst (v := 1) dL_law_1186 (by decide) rfl ?_
  refine wp_iadd dL_law_1187 rfl ?_
  refine wx_iald dL_law_1188 rfl rfl (nIx ixs1 (by omega)) (by show i + 1 < s.2.2.1.1; omega) rfl ?_
  refine wn_callV1i dL_law_1189 rRL_149 (rcv_of o10 rfl) (Nat.le_of_ble_eq_true rfl) rfl (Nat.le_of_ble_eq_true rfl) rfl (k_reads (d := d) hI) (fun y t hq => ?_)
  obtain ⟨⟨e0, e1⟩, hq⟩ := hq
  have ht : t.2.2.1.1 = L := e1.trans hs
  refine wp_aload_n dL_law_1192 rfl rfl ?_
  refine wp_aload_n dL_law_1193 rfl rfl ?_
  refine wp_iload_n dL_law_1194 rfl rfl ?_
  refine wp_iconst (v := 1) dL_law_1195 (by decide) rfl ?_
  refine wp_iadd dL_law_1196 rfl ?_
  refine wx_iald dL_law_1197 rfl rfl (nIx ixs1 (by omega)) (by show i + 1 < t.2.2.1.1; omega) rfl ?_
  rw [e0]
  refine wn_callV1i dL_law_1198 rRL_152 (rcv_of o40 rfl) (Nat.le_of_ble_eq_true rfl) rfl (Nat.le_of_ble_eq_true rfl) rfl hq (fun z u hu => ?_)
  obtain ⟨ez, hI2, hK⟩ := hu
  exact wp_icmp_eq (t := 1506) dL_law_1201 rfl rfl (fun _ => kk u hI2 hK) (fun hne => absurd ez.symm hne)
theorem a_copy {d L i : Nat} {s : Sn} {P : Option Av → St → Prop} (hs : s.2.2.1.1 = L) (hi : i + 6 ≤ L) (hL : L ≤ 3072) (hI : INV s) (kk : ∀ u, INV u → Ku s u → Wp (d + 9) ML_law 1506 [some (vR 0 0 0), some (vR 10 0 0), some (vR 40 0 0), some (vI (nI i))] [] (hN u) P) : Wp (d + 9) ML_law 1206 [some (vR 0 0 0), some (vR 10 0 0), some (vR 40 0 0), some (vI (nI i))] [] (hN s) P := by
  refine wp_aload_n dL_law_1206 rfl rfl ?_
  refine wp_aload_n dL_law_1207 rfl rfl ?_
  refine wp_iload_n dL_law_1208 rfl rfl ?_
  refine wp_iconst (v := 1) dL_law_1209 (by decide) rfl ?_
  refine wp_iadd dL_law_1210 rfl ?_
  refine wx_iald dL_law_1211 rfl rfl (nIx ixs1 (by omega)) (by show i + 1 < s.2.2.1.1; omega) rfl ?_
  refine wp_aload_n dL_law_1212 rfl rfl ?_
  refine wp_iload_n dL_law_1213 rfl rfl ?_
  refine wp_iconst (v := 2) dL_law_1214 (by decide) rfl ?_
  refine wp_iadd dL_law_1215 rfl ?_
  refine wx_iald dL_law_1216 rfl rfl (nIx ixs2 (by omega)) (by show i + 2 < s.2.2.1.1; omega) rfl ?_
  refine wp_aload_n dL_law_1217 rfl rfl ?_
  refine wp_iload_n dL_law_1218 rfl rfl ?_
  refine wp_iconst (v := 3) dL_law_1219 (by decide) rfl ?_
  refine wp_iadd dL_law_1220 rfl ?_
  refine wx_iald dL_law_1221 rfl rfl (nIx ixs3 (by omega)) (by show i + 3 < s.2.2.1.1; omega) rfl ?_
  refine wp_aload_n dL_law_1222 rfl rfl ?_
  refine wp_iload_n dL_law_1223 rfl rfl ?_
  refine wp_iconst (v := 4) dL_law_1224 (by decide) rfl ?_
  refine wp_iadd dL_law_1225 rfl ?_
  refine wx_iald dL_law_1226 rfl rfl (nIx ixs4 (by omega)) (by show i + 4 < s.2.2.1.1; omega) rfl ?_
  refine wp_aload_n dL_law_1227 rfl rfl ?_
  refine wp_iload_n dL_law_1228 rfl rfl ?_
  refine wp_iconst (v := 5) dL_law_1229 (by decide) rfl ?_
  refine wp_iadd dL_law_1230 rfl ?_
  refine wx_iald dL_law_1231 rfl rfl (nIx ixs5 (by omega)) (by show i + 5 < s.2.2.1.1; omega) rfl ?_
  refine wn_callV5i dL_law_1232 rRL_153 (rcv_of o10 rfl) (Nat.le_of_ble_eq_true rfl) rfl rfl rfl rfl rfl (Nat.le_of_ble_eq_true rfl) rfl (k_copy (d := d) hI) (fun y t hq => ?_)
  obtain ⟨⟨e0, e1⟩, hq⟩ := hq
  have ht : t.2.2.1.1 = L := e1.trans hs
  refine wp_aload_n dL_law_1235 rfl rfl ?_
  refine wp_aload_n dL_law_1236 rfl rfl ?_
  refine wp_iload_n dL_law_1237 rfl rfl ?_
  refine wp_iconst (v := 1) dL_law_1238 (by decide) rfl ?_
  refine wp_iadd dL_law_1239 rfl ?_
  refine wx_iald dL_law_1240 rfl rfl (nIx ixs1 (by omega)) (by show i + 1 < t.2.2.1.1; omega) rfl ?_
  refine wp_aload_n dL_law_1241 rfl rfl ?_
  refine wp_iload_n dL_law_1242 rfl rfl ?_
  refine wp_iconst (v := 2) dL_law_1243 (by decide) rfl ?_
  refine wp_iadd dL_law_1244 rfl ?_
  refine wx_iald dL_law_1245 rfl rfl (nIx ixs2 (by omega)) (by show i + 2 < t.2.2.1.1; omega) rfl ?_
  refine wp_aload_n dL_law_1246 rfl rfl ?_
  refine wp_iload_n dL_law_1247 rfl rfl ?_
  refine wp_iconst (v := 3) dL_law_1248 (by decide) rfl ?_
  refine wp_iadd dL_law_1249 rfl ?_
  refine wx_iald dL_law_1250 rfl rfl (nIx ixs3 (by omega)) (by show i + 3 < t.2.2.1.1; omega) rfl ?_
  refine wp_aload_n dL_law_1251 rfl rfl ?_
  refine wp_iload_n dL_law_1252 rfl rfl ?_
  refine wp_iconst (v := 4) dL_law_1253 (by decide) rfl ?_
  refine wp_iadd dL_law_1254 rfl ?_
  refine wx_iald dL_law_1255 rfl rfl (nIx ixs4 (by omega)) (by show i + 4 < t.2.2.1.1; omega) rfl ?_
  refine wp_aload_n dL_law_1256 rfl rfl ?_
  refine wp_iload_n dL_law_1257 rfl rfl ?_
  refine wp_iconst (v := 5) dL_law_1258 (by decide) rfl ?_
  refine wp_iadd dL_law_1259 rfl ?_
  refine wx_iald dL_law_1260 rfl rfl (nIx ixs5 (by omega)) (by show i + 5 < t.2.2.1.1; omega) rfl ?_
  rw [e0]
  refine wn_callV5i dL_law_1261 rRL_157 (rcv_of o40 rfl) (Nat.le_of_ble_eq_true rfl) rfl rfl rfl rfl rfl (Nat.le_of_ble_eq_true rfl) rfl hq (fun z u hu => ?_)
  obtain ⟨ez, hI2, hK⟩ := hu
  exact wp_icmp_eq (t := 1506) dL_law_1264 rfl rfl (fun _ => kk u hI2 hK) (fun hne => absurd ez.symm hne)
theorem a_lay {d L i : Nat} {s : Sn} {P : Option Av → St → Prop} (hs : s.2.2.1.1 = L) (hi : i + 6 ≤ L) (hL : L ≤ 3072) (hI : INV s) (kk : ∀ u, INV u → Ku s u → Wp (d + 9) ML_law 1506 [some (vR 0 0 0), some (vR 10 0 0), some (vR 40 0 0), some (vI (nI i))] [] (hN u) P) : Wp (d + 9) ML_law 1269 [some (vR 0 0 0), some (vR 10 0 0), some (vR 40 0 0), some (vI (nI i))] [] (hN s) P := by
  refine wp_aload_n dL_law_1269 rfl rfl ?_
  refine wp_aload_n dL_law_1270 rfl rfl ?_
  refine wp_iload_n dL_law_1271 rfl rfl ?_
  refine wp_iconst (v := 1) dL_law_1272 (by decide) rfl ?_
  refine wp_iadd dL_law_1273 rfl ?_
  refine wx_iald dL_law_1274 rfl rfl (nIx ixs1 (by omega)) (by show i + 1 < s.2.2.1.1; omega) rfl ?_
  refine wp_aload_n dL_law_1275 rfl rfl ?_
  refine wp_iload_n dL_law_1276 rfl rfl ?_
  refine wp_iconst (v := 2) dL_law_1277 (by decide) rfl ?_
  refine wp_iadd dL_law_1278 rfl ?_
  refine wx_iald dL_law_1279 rfl rfl (nIx ixs2 (by omega)) (by show i + 2 < s.2.2.1.1; omega) rfl ?_
  refine wp_aload_n dL_law_1280 rfl rfl ?_
  refine wp_iload_n dL_law_1281 rfl rfl ?_
  refine wp_iconst (v := 3) dL_law_1282 (by decide) rfl ?_
  refine wp_iadd dL_law_1283 rfl ?_
  refine wx_iald dL_law_1284 rfl rfl (nIx ixs3 (by omega)) (by show i + 3 < s.2.2.1.1; omega) rfl ?_
  refine wn_callV3i dL_law_1285 rRL_158 (rcv_of o10 rfl) (Nat.le_of_ble_eq_true rfl) rfl rfl rfl (Nat.le_of_ble_eq_true rfl) rfl (k_lay (d := d) hI) (fun y t hq => ?_)
  obtain ⟨⟨e0, e1⟩, hq⟩ := hq
  have ht : t.2.2.1.1 = L := e1.trans hs
  refine wp_aload_n dL_law_1288 rfl rfl ?_
  refine wp_aload_n dL_law_1289 rfl rfl ?_
  refine wp_iload_n dL_law_1290 rfl rfl ?_
  refine wp_iconst (v := 1) dL_law_1291 (by decide) rfl ?_
  refine wp_iadd dL_law_1292 rfl ?_
  refine wx_iald dL_law_1293 rfl rfl (nIx ixs1 (by omega)) (by show i + 1 < t.2.2.1.1; omega) rfl ?_
  refine wp_aload_n dL_law_1294 rfl rfl ?_
  refine wp_iload_n dL_law_1295 rfl rfl ?_
  refine wp_iconst (v := 2) dL_law_1296 (by decide) rfl ?_
  refine wp_iadd dL_law_1297 rfl ?_
  refine wx_iald dL_law_1298 rfl rfl (nIx ixs2 (by omega)) (by show i + 2 < t.2.2.1.1; omega) rfl ?_
  refine wp_aload_n dL_law_1299 rfl rfl ?_
  refine wp_iload_n dL_law_1300 rfl rfl ?_
  refine wp_iconst (v := 3) dL_law_1301 (by decide) rfl ?_
  refine wp_iadd dL_law_1302 rfl ?_
  refine wx_iald dL_law_1303 rfl rfl (nIx ixs3 (by omega)) (by show i + 3 < t.2.2.1.1; omega) rfl ?_
  rw [e0]
  refine wn_callV3i dL_law_1304 rRL_161 (rcv_of o40 rfl) (Nat.le_of_ble_eq_true rfl) rfl rfl rfl (Nat.le_of_ble_eq_true rfl) rfl hq (fun z u hu => ?_)
  obtain ⟨ez, hI2, hK⟩ := hu
  exact wp_icmp_eq (t := 1506) dL_law_1307 rfl rfl (fun _ => kk u hI2 hK) (fun hne => absurd ez.symm hne)
theorem a_ask {d L i : Nat} {s : Sn} {P : Option Av → St → Prop} (hs : s.2.2.1.1 = L) (hi : i + 6 ≤ L) (hL : L ≤ 3072) (hI : INV s) (kk : ∀ u, INV u → Ku s u → Wp (d + 9) ML_law 1506 [some (vR 0 0 0), some (vR 10 0 0), some (vR 40 0 0), some (vI (nI i))] [] (hN u) P) : Wp (d + 9) ML_law 1312 [some (vR 0 0 0), some (vR 10 0 0), some (vR 40 0 0), some (vI (nI i))] [] (hN s) P := by
  refine wp_aload_n dL_law_1312 rfl rfl ?_
  refine wp_aload_n dL_law_1313 rfl rfl ?_
  refine wp_iload_n dL_law_1314 rfl rfl ?_
  refine wp_iconst (v := 1) dL_law_1315 (by decide) rfl ?_
  refine wp_iadd dL_law_1316 rfl ?_
  refine wx_iald dL_law_1317 rfl rfl (nIx ixs1 (by omega)) (by show i + 1 < s.2.2.1.1; omega) rfl ?_
  refine wp_aload_n dL_law_1318 rfl rfl ?_
  refine wp_iload_n dL_law_1319 rfl rfl ?_
  refine wp_iconst (v := 2) dL_law_1320 (by decide) rfl ?_
  refine wp_iadd dL_law_1321 rfl ?_
  refine wx_iald dL_law_1322 rfl rfl (nIx ixs2 (by omega)) (by show i + 2 < s.2.2.1.1; omega) rfl ?_
  refine wn_callV2i dL_law_1323 rRL_162 (rcv_of o10 rfl) (Nat.le_of_ble_eq_true rfl) rfl rfl (Nat.le_of_ble_eq_true rfl) rfl (k_ask (d := d) hI) (fun y t hq => ?_)
  obtain ⟨⟨e0, e1⟩, hq⟩ := hq
  have ht : t.2.2.1.1 = L := e1.trans hs
  refine wp_aload_n dL_law_1326 rfl rfl ?_
  refine wp_aload_n dL_law_1327 rfl rfl ?_
  refine wp_iload_n dL_law_1328 rfl rfl ?_
  refine wp_iconst (v := 1) dL_law_1329 (by decide) rfl ?_
  refine wp_iadd dL_law_1330 rfl ?_
  refine wx_iald dL_law_1331 rfl rfl (nIx ixs1 (by omega)) (by show i + 1 < t.2.2.1.1; omega) rfl ?_
  refine wp_aload_n dL_law_1332 rfl rfl ?_
  refine wp_iload_n dL_law_1333 rfl rfl ?_
  refine wp_iconst (v := 2) dL_law_1334 (by decide) rfl ?_
  refine wp_iadd dL_law_1335 rfl ?_
  refine wx_iald dL_law_1336 rfl rfl (nIx ixs2 (by omega)) (by show i + 2 < t.2.2.1.1; omega) rfl ?_
  rw [e0]
  refine wn_callV2i dL_law_1337 rRL_165 (rcv_of o40 rfl) (Nat.le_of_ble_eq_true rfl) rfl rfl (Nat.le_of_ble_eq_true rfl) rfl hq (fun z u hu => ?_)
  obtain ⟨ez, hI2, hK⟩ := hu
  exact wp_icmp_eq (t := 1506) dL_law_1340 rfl rfl (fun _ => kk u hI2 hK) (fun hne => absurd ez.symm hne)
theorem a_item {d L i : Nat} {s : Sn} {P : Option Av → St → Prop} (hs : s.2.2.1.1 = L) (hi : i + 6 ≤ L) (hL : L ≤ 3072) (hI : INV s) (kk : ∀ u, INV u → Ku s u → Wp (d + 9) ML_law 1506 [some (vR 0 0 0), some (vR 10 0 0), some (vR 40 0 0), some (vI (nI i))] [] (hN u) P) : Wp (d + 9) ML_law 1345 [some (vR 0 0 0), some (vR 10 0 0), some (vR 40 0 0), some (vI (nI i))] [] (hN s) P := by
  refine wp_aload_n dL_law_1345 rfl rfl ?_
  refine wp_aload_n dL_law_1346 rfl rfl ?_
  refine wp_iload_n dL_law_1347 rfl rfl ?_
  refine wp_iconst (v := 1) dL_law_1348 (by decide) rfl ?_
  refine wp_iadd dL_law_1349 rfl ?_
  refine wx_iald dL_law_1350 rfl rfl (nIx ixs1 (by omega)) (by show i + 1 < s.2.2.1.1; omega) rfl ?_
  refine wp_aload_n dL_law_1351 rfl rfl ?_
  refine wp_iload_n dL_law_1352 rfl rfl ?_
  refine wp_iconst (v := 2) dL_law_1353 (by decide) rfl ?_
  refine wp_iadd dL_law_1354 rfl ?_
  refine wx_iald dL_law_1355 rfl rfl (nIx ixs2 (by omega)) (by show i + 2 < s.2.2.1.1; omega) rfl ?_
  refine wn_callV2i dL_law_1356 rRL_166 (rcv_of o10 rfl) (Nat.le_of_ble_eq_true rfl) rfl rfl (Nat.le_of_ble_eq_true rfl) rfl (k_item (d := d) hI) (fun y t hq => ?_)
  obtain ⟨⟨e0, e1⟩, hq⟩ := hq
  have ht : t.2.2.1.1 = L := e1.trans hs
  refine wp_aload_n dL_law_1359 rfl rfl ?_
  refine wp_aload_n dL_law_1360 rfl rfl ?_
  refine wp_iload_n dL_law_1361 rfl rfl ?_
  refine wp_iconst (v := 1) dL_law_1362 (by decide) rfl ?_
  refine wp_iadd dL_law_1363 rfl ?_
  refine wx_iald dL_law_1364 rfl rfl (nIx ixs1 (by omega)) (by show i + 1 < t.2.2.1.1; omega) rfl ?_
  refine wp_aload_n dL_law_1365 rfl rfl ?_
  refine wp_iload_n dL_law_1366 rfl rfl ?_
  refine wp_iconst (v := 2) dL_law_1367 (by decide) rfl ?_
  refine wp_iadd dL_law_1368 rfl ?_
  refine wx_iald dL_law_1369 rfl rfl (nIx ixs2 (by omega)) (by show i + 2 < t.2.2.1.1; omega) rfl ?_
  rw [e0]
  refine wn_callV2i dL_law_1370 rRL_169 (rcv_of o40 rfl) (Nat.le_of_ble_eq_true rfl) rfl rfl (Nat.le_of_ble_eq_true rfl) rfl hq (fun z u hu => ?_)
  obtain ⟨ez, hI2, hK⟩ := hu
  exact wp_icmp_eq (t := 1506) dL_law_1373 rfl rfl (fun _ => kk u hI2 hK) (fun hne => absurd ez.symm hne)
theorem a_rest {d L i : Nat} {s : Sn} {P : Option Av → St → Prop} (hs : s.2.2.1.1 = L) (hi : i + 6 ≤ L) (hL : L ≤ 3072) (hI : INV s) (kk : ∀ u, INV u → Ku s u → Wp (d + 9) ML_law 1506 [some (vR 0 0 0), some (vR 10 0 0), some (vR 40 0 0), some (vI (nI i))] [] (hN u) P) : Wp (d + 9) ML_law 1378 [some (vR 0 0 0), some (vR 10 0 0), some (vR 40 0 0), some (vI (nI i))] [] (hN s) P := by
  refine wp_aload_n dL_law_1378 rfl rfl ?_
  refine wp_aload_n dL_law_1379 rfl rfl ?_
  refine wp_iload_n dL_law_1380 rfl rfl ?_
  refine wp_iconst (v := 1) dL_law_1381 (by decide) rfl ?_
  refine wp_iadd dL_law_1382 rfl ?_
  refine wx_iald dL_law_1383 rfl rfl (nIx ixs1 (by omega)) (by show i + 1 < s.2.2.1.1; omega) rfl ?_
  refine wp_aload_n dL_law_1384 rfl rfl ?_
  refine wp_iload_n dL_law_1385 rfl rfl ?_
  refine wp_iconst (v := 2) dL_law_1386 (by decide) rfl ?_
  refine wp_iadd dL_law_1387 rfl ?_
  refine wx_iald dL_law_1388 rfl rfl (nIx ixs2 (by omega)) (by show i + 2 < s.2.2.1.1; omega) rfl ?_
  refine wn_callV2i dL_law_1389 rRL_170 (rcv_of o10 rfl) (Nat.le_of_ble_eq_true rfl) rfl rfl (Nat.le_of_ble_eq_true rfl) rfl (k_rest (d := d) hI) (fun y t hq => ?_)
  obtain ⟨⟨e0, e1⟩, hq⟩ := hq
  have ht : t.2.2.1.1 = L := e1.trans hs
  refine wp_aload_n dL_law_1392 rfl rfl ?_
  refine wp_aload_n dL_law_1393 rfl rfl ?_
  refine wp_iload_n dL_law_1394 rfl rfl ?_
  refine wp_iconst (v := 1) dL_law_1395 (by decide) rfl ?_
  refine wp_iadd dL_law_1396 rfl ?_
  refine wx_iald dL_law_1397 rfl rfl (nIx ixs1 (by omega)) (by show i + 1 < t.2.2.1.1; omega) rfl ?_
  refine wp_aload_n dL_law_1398 rfl rfl ?_
  refine wp_iload_n dL_law_1399 rfl rfl ?_
  refine wp_iconst (v := 2) dL_law_1400 (by decide) rfl ?_
  refine wp_iadd dL_law_1401 rfl ?_
  refine wx_iald dL_law_1402 rfl rfl (nIx ixs2 (by omega)) (by show i + 2 < t.2.2.1.1; omega) rfl ?_
  rw [e0]
  refine wn_callV2i dL_law_1403 rRL_173 (rcv_of o40 rfl) (Nat.le_of_ble_eq_true rfl) rfl rfl (Nat.le_of_ble_eq_true rfl) rfl hq (fun z u hu => ?_)
  obtain ⟨ez, hI2, hK⟩ := hu
  exact wp_icmp_eq (t := 1506) dL_law_1406 rfl rfl (fun _ => kk u hI2 hK) (fun hne => absurd ez.symm hne)
theorem a_tell {d L i : Nat} {s : Sn} {P : Option Av → St → Prop} (hs : s.2.2.1.1 = L) (hi : i + 6 ≤ L) (hL : L ≤ 3072) (hI : INV s) (kk : ∀ u, INV u → Ku s u → Wp (d + 9) ML_law 1506 [some (vR 0 0 0), some (vR 10 0 0), some (vR 40 0 0), some (vI (nI i))] [] (hN u) P) : Wp (d + 9) ML_law 1411 [some (vR 0 0 0), some (vR 10 0 0), some (vR 40 0 0), some (vI (nI i))] [] (hN s) P := by
  refine wp_aload_n dL_law_1411 rfl rfl ?_
  refine wp_aload_n dL_law_1412 rfl rfl ?_
  refine wp_iload_n dL_law_1413 rfl rfl ?_
  refine wp_iconst (v := 1) dL_law_1414 (by decide) rfl ?_
  refine wp_iadd dL_law_1415 rfl ?_
  refine wx_iald dL_law_1416 rfl rfl (nIx ixs1 (by omega)) (by show i + 1 < s.2.2.1.1; omega) rfl ?_
  refine wn_callV1i dL_law_1417 rRL_174 (rcv_of o10 rfl) (Nat.le_of_ble_eq_true rfl) rfl (Nat.le_of_ble_eq_true rfl) rfl (k_tell (d := d) hI) (fun y t hq => ?_)
  obtain ⟨⟨e0, e1⟩, hq⟩ := hq
  have ht : t.2.2.1.1 = L := e1.trans hs
  refine wp_aload_n dL_law_1420 rfl rfl ?_
  refine wp_aload_n dL_law_1421 rfl rfl ?_
  refine wp_iload_n dL_law_1422 rfl rfl ?_
  refine wp_iconst (v := 1) dL_law_1423 (by decide) rfl ?_
  refine wp_iadd dL_law_1424 rfl ?_
  refine wx_iald dL_law_1425 rfl rfl (nIx ixs1 (by omega)) (by show i + 1 < t.2.2.1.1; omega) rfl ?_
  rw [e0]
  refine wn_callV1i dL_law_1426 rRL_177 (rcv_of o40 rfl) (Nat.le_of_ble_eq_true rfl) rfl (Nat.le_of_ble_eq_true rfl) rfl hq (fun z u hu => ?_)
  obtain ⟨ez, hI2, hK⟩ := hu
  exact wp_icmp_eq (t := 1506) dL_law_1429 rfl rfl (fun _ => kk u hI2 hK) (fun hne => absurd ez.symm hne)
theorem a_check {d L i : Nat} {s : Sn} {P : Option Av → St → Prop} (hs : s.2.2.1.1 = L) (hi : i + 6 ≤ L) (hL : L ≤ 3072) (hI : INV s) (kk : ∀ u, INV u → Ku s u → Wp (d + 9) ML_law 1506 [some (vR 0 0 0), some (vR 10 0 0), some (vR 40 0 0), some (vI (nI i))] [] (hN u) P) : Wp (d + 9) ML_law 1434 [some (vR 0 0 0), some (vR 10 0 0), some (vR 40 0 0), some (vI (nI i))] [] (hN s) P := by
  refine wp_aload_n dL_law_1434 rfl rfl ?_
  refine wp_aload_n dL_law_1435 rfl rfl ?_
  refine wp_iload_n dL_law_1436 rfl rfl ?_
  refine wp_iconst (v := 1) dL_law_1437 (by decide) rfl ?_
  refine wp_iadd dL_law_1438 rfl ?_
  refine wx_iald dL_law_1439 rfl rfl (nIx ixs1 (by omega)) (by show i + 1 < s.2.2.1.1; omega) rfl ?_
  refine wn_callV1i dL_law_1440 rRL_178 (rcv_of o10 rfl) (Nat.le_of_ble_eq_true rfl) rfl (Nat.le_of_ble_eq_true rfl) rfl (k_check (d := d) hI) (fun y t hq => ?_)
  obtain ⟨⟨e0, e1⟩, hq⟩ := hq
  have ht : t.2.2.1.1 = L := e1.trans hs
  refine wp_aload_n dL_law_1443 rfl rfl ?_
  refine wp_aload_n dL_law_1444 rfl rfl ?_
  refine wp_iload_n dL_law_1445 rfl rfl ?_
  refine wp_iconst (v := 1) dL_law_1446 (by decide) rfl ?_
  refine wp_iadd dL_law_1447 rfl ?_
  refine wx_iald dL_law_1448 rfl rfl (nIx ixs1 (by omega)) (by show i + 1 < t.2.2.1.1; omega) rfl ?_
  rw [e0]
  refine wn_callV1i dL_law_1449 rRL_181 (rcv_of o40 rfl) (Nat.le_of_ble_eq_true rfl) rfl (Nat.le_of_ble_eq_true rfl) rfl hq (fun z u hu => ?_)
  obtain ⟨ez, hI2, hK⟩ := hu
  exact wp_icmp_eq (t := 1506) dL_law_1452 rfl rfl (fun _ => kk u hI2 hK) (fun hne => absurd ez.symm hne)
theorem a_keep {d L i : Nat} {s : Sn} {P : Option Av → St → Prop} (hs : s.2.2.1.1 = L) (hi : i + 6 ≤ L) (hL : L ≤ 3072) (hI : INV s) (kk : ∀ u, INV u → Ku s u → Wp (d + 9) ML_law 1506 [some (vR 0 0 0), some (vR 10 0 0), some (vR 40 0 0), some (vI (nI i))] [] (hN u) P) : Wp (d + 9) ML_law 1457 [some (vR 0 0 0), some (vR 10 0 0), some (vR 40 0 0), some (vI (nI i))] [] (hN s) P := by
  refine wp_aload_n dL_law_1457 rfl rfl ?_
  refine wn_callV0i dL_law_1458 rRL_182 (rcv_of o10 rfl) (Nat.le_of_ble_eq_true rfl)  (Nat.le_of_ble_eq_true rfl) rfl (k_keep (d := d) hI) (fun y t hq => ?_)
  obtain ⟨⟨e0, e1⟩, hq⟩ := hq
  have ht : t.2.2.1.1 = L := e1.trans hs
  refine wp_aload_n dL_law_1461 rfl rfl ?_
  refine wn_callV0i dL_law_1462 rRL_185 (rcv_of o40 rfl) (Nat.le_of_ble_eq_true rfl)  (Nat.le_of_ble_eq_true rfl) rfl hq (fun z u hu => ?_)
  obtain ⟨ez, hI2, hK⟩ := hu
  exact wp_icmp_eq (t := 1506) dL_law_1465 rfl rfl (fun _ => kk u hI2 hK) (fun hne => absurd ez.symm hne)
theorem a_back {d L i : Nat} {s : Sn} {P : Option Av → St → Prop} (hs : s.2.2.1.1 = L) (hi : i + 6 ≤ L) (hL : L ≤ 3072) (hI : INV s) (kk : ∀ u, INV u → Ku s u → Wp (d + 9) ML_law 1506 [some (vR 0 0 0), some (vR 10 0 0), some (vR 40 0 0), some (vI (nI i))] [] (hN u) P) : Wp (d + 9) ML_law 1470 [some (vR 0 0 0), some (vR 10 0 0), some (vR 40 0 0), some (vI (nI i))] [] (hN s) P := by
  refine wp_aload_n dL_law_1470 rfl rfl ?_
  refine wn_callV0i dL_law_1471 rRL_186 (rcv_of o10 rfl) (Nat.le_of_ble_eq_true rfl)  (Nat.le_of_ble_eq_true rfl) rfl (k_back (d := d) hI) (fun y t hq => ?_)
  obtain ⟨⟨e0, e1⟩, hq⟩ := hq
  have ht : t.2.2.1.1 = L := e1.trans hs
  refine wp_aload_n dL_law_1474 rfl rfl ?_
  refine wn_callV0i dL_law_1475 rRL_189 (rcv_of o40 rfl) (Nat.le_of_ble_eq_true rfl)  (Nat.le_of_ble_eq_true rfl) rfl hq (fun z u hu => ?_)
  obtain ⟨ez, hI2, hK⟩ := hu
  exact wp_icmp_eq (t := 1506) dL_law_1478 rfl rfl (fun _ => kk u hI2 hK) (fun hne => absurd ez.symm hne)
theorem a_count {d L i : Nat} {s : Sn} {P : Option Av → St → Prop} (hs : s.2.2.1.1 = L) (hi : i + 6 ≤ L) (hL : L ≤ 3072) (hI : INV s) (kk : ∀ u, INV u → Ku s u → Wp (d + 9) ML_law 1506 [some (vR 0 0 0), some (vR 10 0 0), some (vR 40 0 0), some (vI (nI i))] [] (hN u) P) : Wp (d + 9) ML_law 1483 [some (vR 0 0 0), some (vR 10 0 0), some (vR 40 0 0), some (vI (nI i))] [] (hN s) P := by
  refine wp_aload_n dL_law_1483 rfl rfl ?_
  refine wp_aload_n dL_law_1484 rfl rfl ?_
  refine wp_iload_n dL_law_1485 rfl rfl ?_
  refine wp_iconst (v := 1) dL_law_1486 (by decide) rfl ?_
  refine wp_iadd dL_law_1487 rfl ?_
  refine wx_iald dL_law_1488 rfl rfl (nIx ixs1 (by omega)) (by show i + 1 < s.2.2.1.1; omega) rfl ?_
  refine wn_callV1i dL_law_1489 rRL_190 (rcv_of o10 rfl) (Nat.le_of_ble_eq_true rfl) rfl (Nat.le_of_ble_eq_true rfl) rfl (k_count (d := d) hI) (fun y t hq => ?_)
  obtain ⟨⟨e0, e1⟩, hq⟩ := hq
  have ht : t.2.2.1.1 = L := e1.trans hs
  refine wp_aload_n dL_law_1492 rfl rfl ?_
  refine wp_aload_n dL_law_1493 rfl rfl ?_
  refine wp_iload_n dL_law_1494 rfl rfl ?_
  refine wp_iconst (v := 1) dL_law_1495 (by decide) rfl ?_
  refine wp_iadd dL_law_1496 rfl ?_
  refine wx_iald dL_law_1497 rfl rfl (nIx ixs1 (by omega)) (by show i + 1 < t.2.2.1.1; omega) rfl ?_
  rw [e0]
  refine wn_callV1i dL_law_1498 rRL_193 (rcv_of o40 rfl) (Nat.le_of_ble_eq_true rfl) rfl (Nat.le_of_ble_eq_true rfl) rfl hq (fun z u hu => ?_)
  obtain ⟨ez, hI2, hK⟩ := hu
  exact wp_icmp_eq (t := 1506) dL_law_1501 rfl rfl (fun _ => kk u hI2 hK) (fun hne => absurd ez.symm hne)
