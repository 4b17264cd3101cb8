/-! the law: the calls, 1 -/
section ZLW
variable {p : Program} {l : Launch} {e : Env} {s : State} {m : MethodId} {below : List Frame} {meth : Method} {c : Code} {g : za_L → Nat} {D : va_G} {cy : Nat → ClassId} {b L : Nat} {xs : Nat → Int32} {Q : State → Prop}
set_option maxRecDepth 100000 in
set_option maxHeartbeats 4000000 in
theorem zL_0 (C : za_C p s m #[Value.ref b] c code 4 RL g D cy) (hX : va_X b L xs s s.heap) (hbl : b < s.heap.size) (hbA : ¬ za_A g b) (hL : L ≤ 3072) {M : za_M} {n : Nat} (hI : zI M) (hn : n + 6 ≤ L) (kk : ∀ M', zI M' → zt p l e room_1 s m #[Value.ref b] below meth c 133 2551 Q g D cy 4 M' 1545 (zl_lv b g n) []) : zt p l e room_1 s m #[Value.ref b] below meth c 133 2551 Q g D cy 4 M 212 (zl_lv b g n) [] := by
  have h := zT_ash (xs (n + 1)) M (fun r1 r2 M2 => r1 = r2 ∧ zI M2) hI (fun v M' h => ⟨rfl, h⟩)
  refine zt_aload_n C 1 dL_law_212 rfl rfl ?_
  refine zl_arg C hX hbl hbA hL (k := 1) (by omega) dL_law_213 dL_law_214 dL_law_215 dL_law_216 dL_law_217 ?_
  refine zt_cVi C [.int (xs (n + 1))] (m_X9_ash C.2.2.2.2.2.2 h) (za_mem (j := 0) rfl (by decide) (by decide)) (za_E_0 g cy M 0 0) rfl vY_X9_ash vV_X9_ash (Nat.le_of_ble_eq_true rfl) (by exact ⟨(Nat.le_of_ble_eq_true rfl), (Nat.le_of_ble_eq_true rfl)⟩) (by exact ⟨(Nat.le_of_ble_eq_true rfl), (Nat.le_of_ble_eq_true rfl)⟩) dL_law_218 rfl (fun r1 M1 h1 => ?_)
  refine zt_aload_n C 2 dL_law_221 rfl rfl ?_
  refine zl_arg C hX hbl hbA hL (k := 1) (by omega) dL_law_222 dL_law_223 dL_law_224 dL_law_225 dL_law_226 ?_
  refine zt_cVi C [.int (xs (n + 1))] (m_X10_ash C.2.2.2.2.2.2 h1) (za_mem (j := 27) rfl (by decide) (by decide)) (za_E_27 g cy M1 0 0) rfl vY_X10_ash vV_X10_ash (Nat.le_of_ble_eq_true rfl) (by exact ⟨(Nat.le_of_ble_eq_true rfl), (Nat.le_of_ble_eq_true rfl)⟩) (by exact ⟨(Nat.le_of_ble_eq_true rfl), (Nat.le_of_ble_eq_true rfl)⟩) dL_law_227 rfl (fun r2 M2 h2 => ?_)
  obtain ⟨rfl, hI2⟩ := h2
  exact zt_icmp_eq C 1545 dL_law_230 (by decide) (fun _ => kk M2 hI2) (fun q => absurd rfl q)
set_option maxRecDepth 100000 in
set_option maxHeartbeats 4000000 in
theorem zL_1 (C : za_C p s m #[Value.ref b] c code 4 RL g D cy) (hX : va_X b L xs s s.heap) (hbl : b < s.heap.size) (hbA : ¬ za_A g b) (hL : L ≤ 3072) {M : za_M} {n : Nat} (hI : zI M) (hn : n + 6 ≤ L) (kk : ∀ M', zI M' → zt p l e room_1 s m #[Value.ref b] below meth c 133 2551 Q g D cy 4 M' 1545 (zl_lv b g n) []) : zt p l e room_1 s m #[Value.ref b] below meth c 133 2551 Q g D cy 4 M 235 (zl_lv b g n) [] := by
  have h := zT_ofAsh (xs (n + 1)) (xs (n + 2)) M (fun r1 r2 M2 => r1 = r2 ∧ zI M2) hI (fun v M' h => ⟨rfl, h⟩)
  refine zt_aload_n C 1 dL_law_235 rfl rfl ?_
  refine zl_arg C hX hbl hbA hL (k := 1) (by omega) dL_law_236 dL_law_237 dL_law_238 dL_law_239 dL_law_240 ?_
  refine zl_arg C hX hbl hbA hL (k := 2) (by omega) dL_law_241 dL_law_242 dL_law_243 dL_law_244 dL_law_245 ?_
  refine zt_cVi C [.int (xs (n + 1)), .int (xs (n + 2))] (m_X9_ofAsh C.2.2.2.2.2.2 h) (za_mem (j := 0) rfl (by decide) (by decide)) (za_E_0 g cy M 0 0) rfl vY_X9_ofAsh vV_X9_ofAsh (Nat.le_of_ble_eq_true rfl) (by exact ⟨(Nat.le_of_ble_eq_true rfl), (Nat.le_of_ble_eq_true rfl)⟩) (by exact ⟨(Nat.le_of_ble_eq_true rfl), (Nat.le_of_ble_eq_true rfl)⟩) dL_law_246 rfl (fun r1 M1 h1 => ?_)
  refine zt_aload_n C 2 dL_law_249 rfl rfl ?_
  refine zl_arg C hX hbl hbA hL (k := 1) (by omega) dL_law_250 dL_law_251 dL_law_252 dL_law_253 dL_law_254 ?_
  refine zl_arg C hX hbl hbA hL (k := 2) (by omega) dL_law_255 dL_law_256 dL_law_257 dL_law_258 dL_law_259 ?_
  refine zt_cVi C [.int (xs (n + 1)), .int (xs (n + 2))] (m_X10_ofAsh C.2.2.2.2.2.2 h1) (za_mem (j := 27) rfl (by decide) (by decide)) (za_E_27 g cy M1 0 0) rfl vY_X10_ofAsh vV_X10_ofAsh (Nat.le_of_ble_eq_true rfl) (by exact ⟨(Nat.le_of_ble_eq_true rfl), (Nat.le_of_ble_eq_true rfl)⟩) (by exact ⟨(Nat.le_of_ble_eq_true rfl), (Nat.le_of_ble_eq_true rfl)⟩) dL_law_260 rfl (fun r2 M2 h2 => ?_)
  obtain ⟨rfl, hI2⟩ := h2
  exact zt_icmp_eq C 1545 dL_law_263 (by decide) (fun _ => kk M2 hI2) (fun q => absurd rfl q)
set_option maxRecDepth 100000 in
set_option maxHeartbeats 4000000 in
theorem zL_2 (C : za_C p s m #[Value.ref b] c code 4 RL g D cy) (hX : va_X b L xs s s.heap) (hbl : b < s.heap.size) (hbA : ¬ za_A g b) (hL : L ≤ 3072) {M : za_M} {n : Nat} (hI : zI M) (hn : n + 6 ≤ L) (kk : ∀ M', zI M' → zt p l e room_1 s m #[Value.ref b] below meth c 133 2551 Q g D cy 4 M' 1545 (zl_lv b g n) []) : zt p l e room_1 s m #[Value.ref b] below meth c 133 2551 Q g D cy 4 M 268 (zl_lv b g n) [] := by
  have h := zT_hedge (xs (n + 1)) (xs (n + 2)) (xs (n + 3)) M (fun r1 r2 M2 => r1 = r2 ∧ zI M2) hI (fun v M' h => ⟨rfl, h⟩)
  refine zt_aload_n C 1 dL_law_268 rfl rfl ?_
  refine zl_arg C hX hbl hbA hL (k := 1) (by omega) dL_law_269 dL_law_270 dL_law_271 dL_law_272 dL_law_273 ?_
  refine zl_arg C hX hbl hbA hL (k := 2) (by omega) dL_law_274 dL_law_275 dL_law_276 dL_law_277 dL_law_278 ?_
  refine zl_arg C hX hbl hbA hL (k := 3) (by omega) dL_law_279 dL_law_280 dL_law_281 dL_law_282 dL_law_283 ?_
  refine zt_cVi C [.int (xs (n + 1)), .int (xs (n + 2)), .int (xs (n + 3))] (m_X9_hedge C.2.2.2.2.2.2 h) (za_mem (j := 0) rfl (by decide) (by decide)) (za_E_0 g cy M 0 0) rfl vY_X9_hedge vV_X9_hedge (Nat.le_of_ble_eq_true rfl) (by exact ⟨(Nat.le_of_ble_eq_true rfl), (Nat.le_of_ble_eq_true rfl)⟩) (by exact ⟨(Nat.le_of_ble_eq_true rfl), (Nat.le_of_ble_eq_true rfl)⟩) dL_law_284 rfl (fun r1 M1 h1 => ?_)
  refine zt_aload_n C 2 dL_law_287 rfl rfl ?_
  refine zl_arg C hX hbl hbA hL (k := 1) (by omega) dL_law_288 dL_law_289 dL_law_290 dL_law_291 dL_law_292 ?_
  refine zl_arg C hX hbl hbA hL (k := 2) (by omega) dL_law_293 dL_law_294 dL_law_295 dL_law_296 dL_law_297 ?_
  refine zl_arg C hX hbl hbA hL (k := 3) (by omega) dL_law_298 dL_law_299 dL_law_300 dL_law_301 dL_law_302 ?_
  refine zt_cVi C [.int (xs (n + 1)), .int (xs (n + 2)), .int (xs (n + 3))] (m_X10_hedge C.2.2.2.2.2.2 h1) (za_mem (j := 27) rfl (by decide) (by decide)) (za_E_27 g cy M1 0 0) rfl vY_X10_hedge vV_X10_hedge (Nat.le_of_ble_eq_true rfl) (by exact ⟨(Nat.le_of_ble_eq_true rfl), (Nat.le_of_ble_eq_true rfl)⟩) (by exact ⟨(Nat.le_of_ble_eq_true rfl), (Nat.le_of_ble_eq_true rfl)⟩) dL_law_303 rfl (fun r2 M2 h2 => ?_)
  obtain ⟨rfl, hI2⟩ := h2
  exact zt_icmp_eq C 1545 dL_law_306 (by decide) (fun _ => kk M2 hI2) (fun q => absurd rfl q)
set_option maxRecDepth 100000 in
set_option maxHeartbeats 4000000 in
theorem zL_3 (C : za_C p s m #[Value.ref b] c code 4 RL g D cy) (hX : va_X b L xs s s.heap) (hbl : b < s.heap.size) (hbA : ¬ za_A g b) (hL : L ≤ 3072) {M : za_M} {n : Nat} (hI : zI M) (hn : n + 6 ≤ L) (kk : ∀ M', zI M' → zt p l e room_1 s m #[Value.ref b] below meth c 133 2551 Q g D cy 4 M' 1545 (zl_lv b g n) []) : zt p l e room_1 s m #[Value.ref b] below meth c 133 2551 Q g D cy 4 M 311 (zl_lv b g n) [] := by
  have h := zT_become (xs (n + 1)) (xs (n + 2)) M (fun r1 r2 M2 => r1 = r2 ∧ zI M2) hI (fun v M' h => ⟨rfl, h⟩)
  refine zt_aload_n C 1 dL_law_311 rfl rfl ?_
  refine zl_arg C hX hbl hbA hL (k := 1) (by omega) dL_law_312 dL_law_313 dL_law_314 dL_law_315 dL_law_316 ?_
  refine zl_arg C hX hbl hbA hL (k := 2) (by omega) dL_law_317 dL_law_318 dL_law_319 dL_law_320 dL_law_321 ?_
  refine zt_cVi C [.int (xs (n + 1)), .int (xs (n + 2))] (m_X9_become C.2.2.2.2.2.2 h) (za_mem (j := 0) rfl (by decide) (by decide)) (za_E_0 g cy M 0 0) rfl vY_X9_become vV_X9_become (Nat.le_of_ble_eq_true rfl) (by exact ⟨(Nat.le_of_ble_eq_true rfl), (Nat.le_of_ble_eq_true rfl)⟩) (by exact ⟨(Nat.le_of_ble_eq_true rfl), (Nat.le_of_ble_eq_true rfl)⟩) dL_law_322 rfl (fun r1 M1 h1 => ?_)
  refine zt_aload_n C 2 dL_law_325 rfl rfl ?_
  refine zl_arg C hX hbl hbA hL (k := 1) (by omega) dL_law_326 dL_law_327 dL_law_328 dL_law_329 dL_law_330 ?_
  refine zl_arg C hX hbl hbA hL (k := 2) (by omega) dL_law_331 dL_law_332 dL_law_333 dL_law_334 dL_law_335 ?_
  refine zt_cVi C [.int (xs (n + 1)), .int (xs (n + 2))] (m_X10_become C.2.2.2.2.2.2 h1) (za_mem (j := 27) rfl (by decide) (by decide)) (za_E_27 g cy M1 0 0) rfl vY_X10_become vV_X10_become (Nat.le_of_ble_eq_true rfl) (by exact ⟨(Nat.le_of_ble_eq_true rfl), (Nat.le_of_ble_eq_true rfl)⟩) (by exact ⟨(Nat.le_of_ble_eq_true rfl), (Nat.le_of_ble_eq_true rfl)⟩) dL_law_336 rfl (fun r2 M2 h2 => ?_)
  obtain ⟨rfl, hI2⟩ := h2
  exact zt_icmp_eq C 1545 dL_law_339 (by decide) (fun _ => kk M2 hI2) (fun q => absurd rfl q)
set_option maxRecDepth 100000 in
set_option maxHeartbeats 4000000 in
theorem zL_4 (C : za_C p s m #[Value.ref b] c code 4 RL g D cy) (hX : va_X b L xs s s.heap) (hbl : b < s.heap.size) (hbA : ¬ za_A g b) (hL : L ≤ 3072) {M : za_M} {n : Nat} (hI : zI M) (hn : n + 6 ≤ L) (kk : ∀ M', zI M' → zt p l e room_1 s m #[Value.ref b] below meth c 133 2551 Q g D cy 4 M' 1545 (zl_lv b g n) []) : zt p l e room_1 s m #[Value.ref b] below meth c 133 2551 Q g D cy 4 M 344 (zl_lv b g n) [] := by
  have h := zT_as (xs (n + 1)) (xs (n + 2)) M (fun r1 r2 M2 => r1 = r2 ∧ zI M2) hI (fun v M' h => ⟨rfl, h⟩)
  refine zt_aload_n C 1 dL_law_344 rfl rfl ?_
  refine zl_arg C hX hbl hbA hL (k := 1) (by omega) dL_law_345 dL_law_346 dL_law_347 dL_law_348 dL_law_349 ?_
  refine zl_arg C hX hbl hbA hL (k := 2) (by omega) dL_law_350 dL_law_351 dL_law_352 dL_law_353 dL_law_354 ?_
  refine zt_cVi C [.int (xs (n + 1)), .int (xs (n + 2))] (m_X9_as C.2.2.2.2.2.2 h) (za_mem (j := 0) rfl (by decide) (by decide)) (za_E_0 g cy M 0 0) rfl vY_X9_as vV_X9_as (Nat.le_of_ble_eq_true rfl) (by exact ⟨(Nat.le_of_ble_eq_true rfl), (Nat.le_of_ble_eq_true rfl)⟩) (by exact ⟨(Nat.le_of_ble_eq_true rfl), (Nat.le_of_ble_eq_true rfl)⟩) dL_law_355 rfl (fun r1 M1 h1 => ?_)
  refine zt_aload_n C 2 dL_law_358 rfl rfl ?_
  refine zl_arg C hX hbl hbA hL (k := 1) (by omega) dL_law_359 dL_law_360 dL_law_361 dL_law_362 dL_law_363 ?_
  refine zl_arg C hX hbl hbA hL (k := 2) (by omega) dL_law_364 dL_law_365 dL_law_366 dL_law_367 dL_law_368 ?_
  refine zt_cVi C [.int (xs (n + 1)), .int (xs (n + 2))] (m_X10_as C.2.2.2.2.2.2 h1) (za_mem (j := 27) rfl (by decide) (by decide)) (za_E_27 g cy M1 0 0) rfl vY_X10_as vV_X10_as (Nat.le_of_ble_eq_true rfl) (by exact ⟨(Nat.le_of_ble_eq_true rfl), (Nat.le_of_ble_eq_true rfl)⟩) (by exact ⟨(Nat.le_of_ble_eq_true rfl), (Nat.le_of_ble_eq_true rfl)⟩) dL_law_369 rfl (fun r2 M2 h2 => ?_)
  obtain ⟨rfl, hI2⟩ := h2
  exact zt_icmp_eq C 1545 dL_law_372 (by decide) (fun _ => kk M2 hI2) (fun q => absurd rfl q)
set_option maxRecDepth 100000 in
set_option maxHeartbeats 4000000 in
theorem zL_5 (C : za_C p s m #[Value.ref b] c code 4 RL g D cy) (hX : va_X b L xs s s.heap) (hbl : b < s.heap.size) (hbA : ¬ za_A g b) (hL : L ≤ 3072) {M : za_M} {n : Nat} (hI : zI M) (hn : n + 6 ≤ L) (kk : ∀ M', zI M' → zt p l e room_1 s m #[Value.ref b] below meth c 133 2551 Q g D cy 4 M' 1545 (zl_lv b g n) []) : zt p l e room_1 s m #[Value.ref b] below meth c 133 2551 Q g D cy 4 M 377 (zl_lv b g n) [] := by
  have h := zT_potter M (fun r1 r2 M2 => r1 = r2 ∧ zI M2) hI (fun v M' h => ⟨rfl, h⟩)
  refine zt_aload_n C 1 dL_law_377 rfl rfl ?_
  refine zt_cVi C [] (m_X9_potter C.2.2.2.2.2.2 h) (za_mem (j := 0) rfl (by decide) (by decide)) (za_E_0 g cy M 0 0) rfl vY_X9_potter vV_X9_potter (Nat.le_of_ble_eq_true rfl) (by exact ⟨(Nat.le_of_ble_eq_true rfl), (Nat.le_of_ble_eq_true rfl)⟩) (by exact ⟨(Nat.le_of_ble_eq_true rfl), (Nat.le_of_ble_eq_true rfl)⟩) dL_law_378 rfl (fun r1 M1 h1 => ?_)
  refine zt_aload_n C 2 dL_law_381 rfl rfl ?_
  refine zt_cVi C [] (m_X10_potter C.2.2.2.2.2.2 h1) (za_mem (j := 27) rfl (by decide) (by decide)) (za_E_27 g cy M1 0 0) rfl vY_X10_potter vV_X10_potter (Nat.le_of_ble_eq_true rfl) (by exact ⟨(Nat.le_of_ble_eq_true rfl), (Nat.le_of_ble_eq_true rfl)⟩) (by exact ⟨(Nat.le_of_ble_eq_true rfl), (Nat.le_of_ble_eq_true rfl)⟩) dL_law_382 rfl (fun r2 M2 h2 => ?_)
  obtain ⟨rfl, hI2⟩ := h2
  exact zt_icmp_eq C 1545 dL_law_385 (by decide) (fun _ => kk M2 hI2) (fun q => absurd rfl q)
set_option maxRecDepth 100000 in
set_option maxHeartbeats 4000000 in
theorem zL_6 (C : za_C p s m #[Value.ref b] c code 4 RL g D cy) (hX : va_X b L xs s s.heap) (hbl : b < s.heap.size) (hbA : ¬ za_A g b) (hL : L ≤ 3072) {M : za_M} {n : Nat} (hI : zI M) (hn : n + 6 ≤ L) (kk : ∀ M', zI M' → zt p l e room_1 s m #[Value.ref b] below meth c 133 2551 Q g D cy 4 M' 1545 (zl_lv b g n) []) : zt p l e room_1 s m #[Value.ref b] below meth c 133 2551 Q g D cy 4 M 390 (zl_lv b g n) [] := by
  have h := zT_ofPotter (xs (n + 1)) (xs (n + 2)) M (fun r1 r2 M2 => r1 = r2 ∧ zI M2) hI (fun v M' h => ⟨rfl, h⟩)
  refine zt_aload_n C 1 dL_law_390 rfl rfl ?_
  refine zl_arg C hX hbl hbA hL (k := 1) (by omega) dL_law_391 dL_law_392 dL_law_393 dL_law_394 dL_law_395 ?_
  refine zl_arg C hX hbl hbA hL (k := 2) (by omega) dL_law_396 dL_law_397 dL_law_398 dL_law_399 dL_law_400 ?_
  refine zt_cVi C [.int (xs (n + 1)), .int (xs (n + 2))] (m_X9_ofPotter C.2.2.2.2.2.2 h) (za_mem (j := 0) rfl (by decide) (by decide)) (za_E_0 g cy M 0 0) rfl vY_X9_ofPotter vV_X9_ofPotter (Nat.le_of_ble_eq_true rfl) (by exact ⟨(Nat.le_of_ble_eq_true rfl), (Nat.le_of_ble_eq_true rfl)⟩) (by exact ⟨(Nat.le_of_ble_eq_true rfl), (Nat.le_of_ble_eq_true rfl)⟩) dL_law_401 rfl (fun r1 M1 h1 => ?_)
  refine zt_aload_n C 2 dL_law_404 rfl rfl ?_
  refine zl_arg C hX hbl hbA hL (k := 1) (by omega) dL_law_405 dL_law_406 dL_law_407 dL_law_408 dL_law_409 ?_
  refine zl_arg C hX hbl hbA hL (k := 2) (by omega) dL_law_410 dL_law_411 dL_law_412 dL_law_413 dL_law_414 ?_
  refine zt_cVi C [.int (xs (n + 1)), .int (xs (n + 2))] (m_X10_ofPotter C.2.2.2.2.2.2 h1) (za_mem (j := 27) rfl (by decide) (by decide)) (za_E_27 g cy M1 0 0) rfl vY_X10_ofPotter vV_X10_ofPotter (Nat.le_of_ble_eq_true rfl) (by exact ⟨(Nat.le_of_ble_eq_true rfl), (Nat.le_of_ble_eq_true rfl)⟩) (by exact ⟨(Nat.le_of_ble_eq_true rfl), (Nat.le_of_ble_eq_true rfl)⟩) dL_law_415 rfl (fun r2 M2 h2 => ?_)
  obtain ⟨rfl, hI2⟩ := h2
  exact zt_icmp_eq C 1545 dL_law_418 (by decide) (fun _ => kk M2 hI2) (fun q => absurd rfl q)
set_option maxRecDepth 100000 in
set_option maxHeartbeats 4000000 in
theorem zL_7 (C : za_C p s m #[Value.ref b] c code 4 RL g D cy) (hX : va_X b L xs s s.heap) (hbl : b < s.heap.size) (hbA : ¬ za_A g b) (hL : L ≤ 3072) {M : za_M} {n : Nat} (hI : zI M) (hn : n + 6 ≤ L) (kk : ∀ M', zI M' → zt p l e room_1 s m #[Value.ref b] below meth c 133 2551 Q g D cy 4 M' 1545 (zl_lv b g n) []) : zt p l e room_1 s m #[Value.ref b] below meth c 133 2551 Q g D cy 4 M 423 (zl_lv b g n) [] := by
  have h := zT_store (xs (n + 1)) (xs (n + 2)) (xs (n + 3)) M (fun r1 r2 M2 => r1 = r2 ∧ zI M2) hI (fun v M' h => ⟨rfl, h⟩)
  refine zt_aload_n C 1 dL_law_423 rfl rfl ?_
  refine zl_arg C hX hbl hbA hL (k := 1) (by omega) dL_law_424 dL_law_425 dL_law_426 dL_law_427 dL_law_428 ?_
  refine zl_arg C hX hbl hbA hL (k := 2) (by omega) dL_law_429 dL_law_430 dL_law_431 dL_law_432 dL_law_433 ?_
  refine zl_arg C hX hbl hbA hL (k := 3) (by omega) dL_law_434 dL_law_435 dL_law_436 dL_law_437 dL_law_438 ?_
  refine zt_cVi C [.int (xs (n + 1)), .int (xs (n + 2)), .int (xs (n + 3))] (m_X9_store C.2.2.2.2.2.2 h) (za_mem (j := 0) rfl (by decide) (by decide)) (za_E_0 g cy M 0 0) rfl vY_X9_store vV_X9_store (Nat.le_of_ble_eq_true rfl) (by exact ⟨(Nat.le_of_ble_eq_true rfl), (Nat.le_of_ble_eq_true rfl)⟩) (by exact ⟨(Nat.le_of_ble_eq_true rfl), (Nat.le_of_ble_eq_true rfl)⟩) dL_law_439 rfl (fun r1 M1 h1 => ?_)
  refine zt_aload_n C 2 dL_law_442 rfl rfl ?_
  refine zl_arg C hX hbl hbA hL (k := 1) (by omega) dL_law_443 dL_law_444 dL_law_445 dL_law_446 dL_law_447 ?_
  refine zl_arg C hX hbl hbA hL (k := 2) (by omega) dL_law_448 dL_law_449 dL_law_450 dL_law_451 dL_law_452 ?_
  refine zl_arg C hX hbl hbA hL (k := 3) (by omega) dL_law_453 dL_law_454 dL_law_455 dL_law_456 dL_law_457 ?_
  refine zt_cVi C [.int (xs (n + 1)), .int (xs (n + 2)), .int (xs (n + 3))] (m_X10_store C.2.2.2.2.2.2 h1) (za_mem (j := 27) rfl (by decide) (by decide)) (za_E_27 g cy M1 0 0) rfl vY_X10_store vV_X10_store (Nat.le_of_ble_eq_true rfl) (by exact ⟨(Nat.le_of_ble_eq_true rfl), (Nat.le_of_ble_eq_true rfl)⟩) (by exact ⟨(Nat.le_of_ble_eq_true rfl), (Nat.le_of_ble_eq_true rfl)⟩) dL_law_458 rfl (fun r2 M2 h2 => ?_)
  obtain ⟨rfl, hI2⟩ := h2
  exact zt_icmp_eq C 1545 dL_law_461 (by decide) (fun _ => kk M2 hI2) (fun q => absurd rfl q)
set_option maxRecDepth 100000 in
set_option maxHeartbeats 4000000 in
theorem zL_8 (C : za_C p s m #[Value.ref b] c code 4 RL g D cy) (hX : va_X b L xs s s.heap) (hbl : b < s.heap.size) (hbA : ¬ za_A g b) (hL : L ≤ 3072) {M : za_M} {n : Nat} (hI : zI M) (hn : n + 6 ≤ L) (kk : ∀ M', zI M' → zt p l e room_1 s m #[Value.ref b] below meth c 133 2551 Q g D cy 4 M' 1545 (zl_lv b g n) []) : zt p l e room_1 s m #[Value.ref b] below meth c 133 2551 Q g D cy 4 M 466 (zl_lv b g n) [] := by
  have h := zT_stored (xs (n + 1)) (xs (n + 2)) M (fun r1 r2 M2 => r1 = r2 ∧ zI M2) hI (fun v M' h => ⟨rfl, h⟩)
  refine zt_aload_n C 1 dL_law_466 rfl rfl ?_
  refine zl_arg C hX hbl hbA hL (k := 1) (by omega) dL_law_467 dL_law_468 dL_law_469 dL_law_470 dL_law_471 ?_
  refine zl_arg C hX hbl hbA hL (k := 2) (by omega) dL_law_472 dL_law_473 dL_law_474 dL_law_475 dL_law_476 ?_
  refine zt_cVi C [.int (xs (n + 1)), .int (xs (n + 2))] (m_X9_stored C.2.2.2.2.2.2 h) (za_mem (j := 0) rfl (by decide) (by decide)) (za_E_0 g cy M 0 0) rfl vY_X9_stored vV_X9_stored (Nat.le_of_ble_eq_true rfl) (by exact ⟨(Nat.le_of_ble_eq_true rfl), (Nat.le_of_ble_eq_true rfl)⟩) (by exact ⟨(Nat.le_of_ble_eq_true rfl), (Nat.le_of_ble_eq_true rfl)⟩) dL_law_477 rfl (fun r1 M1 h1 => ?_)
  refine zt_aload_n C 2 dL_law_480 rfl rfl ?_
  refine zl_arg C hX hbl hbA hL (k := 1) (by omega) dL_law_481 dL_law_482 dL_law_483 dL_law_484 dL_law_485 ?_
  refine zl_arg C hX hbl hbA hL (k := 2) (by omega) dL_law_486 dL_law_487 dL_law_488 dL_law_489 dL_law_490 ?_
  refine zt_cVi C [.int (xs (n + 1)), .int (xs (n + 2))] (m_X10_stored C.2.2.2.2.2.2 h1) (za_mem (j := 27) rfl (by decide) (by decide)) (za_E_27 g cy M1 0 0) rfl vY_X10_stored vV_X10_stored (Nat.le_of_ble_eq_true rfl) (by exact ⟨(Nat.le_of_ble_eq_true rfl), (Nat.le_of_ble_eq_true rfl)⟩) (by exact ⟨(Nat.le_of_ble_eq_true rfl), (Nat.le_of_ble_eq_true rfl)⟩) dL_law_491 rfl (fun r2 M2 h2 => ?_)
  obtain ⟨rfl, hI2⟩ := h2
  exact zt_icmp_eq C 1545 dL_law_494 (by decide) (fun _ => kk M2 hI2) (fun q => absurd rfl q)
set_option maxRecDepth 100000 in
set_option maxHeartbeats 4000000 in
theorem zL_9 (C : za_C p s m #[Value.ref b] c code 4 RL g D cy) (hX : va_X b L xs s s.heap) (hbl : b < s.heap.size) (hbA : ¬ za_A g b) (hL : L ≤ 3072) {M : za_M} {n : Nat} (hI : zI M) (hn : n + 6 ≤ L) (kk : ∀ M', zI M' → zt p l e room_1 s m #[Value.ref b] below meth c 133 2551 Q g D cy 4 M' 1545 (zl_lv b g n) []) : zt p l e room_1 s m #[Value.ref b] below meth c 133 2551 Q g D cy 4 M 499 (zl_lv b g n) [] := by
  have h := zT_feed ((((xs (n + 1)).toInt64 <<< ((32 : Int32).toInt64 &&& 63)) ||| ((xs (n + 2)).toInt64 &&& 4294967295))) (xs (n + 3)) M (fun r1 r2 M2 => r1 = r2 ∧ zI M2) hI (fun v M' h => ⟨rfl, h⟩)
  refine zt_aload_n C 1 dL_law_499 rfl rfl ?_
  refine zl_arg C hX hbl hbA hL (k := 1) (by omega) dL_law_500 dL_law_501 dL_law_502 dL_law_503 dL_law_504 ?_
  refine zt_i2l C dL_law_505 ?_
  refine zt_bipush C (v := 32) dL_law_506 (by decide) ?_
  refine zt_lshl C dL_law_508 ?_
  refine zl_arg C hX hbl hbA hL (k := 2) (by omega) dL_law_509 dL_law_510 dL_law_511 dL_law_512 dL_law_513 ?_
  refine zt_i2l C dL_law_514 ?_
  refine zt_ldc2 C v_l53 dL_law_515 ?_
  refine zt_land C dL_law_518 ?_
  refine zt_lor C dL_law_519 ?_
  refine zl_arg C hX hbl hbA hL (k := 3) (by omega) dL_law_520 dL_law_521 dL_law_522 dL_law_523 dL_law_524 ?_
  refine zt_cVi C [.long (((xs (n + 1)).toInt64 <<< ((32 : Int32).toInt64 &&& 63)) ||| ((xs (n + 2)).toInt64 &&& 4294967295)), .int (xs (n + 3))] (m_X9_feed C.2.2.2.2.2.2 h) (za_mem (j := 0) rfl (by decide) (by decide)) (za_E_0 g cy M 0 0) rfl vY_X9_feed vV_X9_feed (Nat.le_of_ble_eq_true rfl) (by exact ⟨(Nat.le_of_ble_eq_true rfl), (Nat.le_of_ble_eq_true rfl)⟩) (by exact ⟨(Nat.le_of_ble_eq_true rfl), (Nat.le_of_ble_eq_true rfl)⟩) dL_law_525 rfl (fun r1 M1 h1 => ?_)
  refine zt_aload_n C 2 dL_law_528 rfl rfl ?_
  refine zl_arg C hX hbl hbA hL (k := 1) (by omega) dL_law_529 dL_law_530 dL_law_531 dL_law_532 dL_law_533 ?_
  refine zt_i2l C dL_law_534 ?_
  refine zt_bipush C (v := 32) dL_law_535 (by decide) ?_
  refine zt_lshl C dL_law_537 ?_
  refine zl_arg C hX hbl hbA hL (k := 2) (by omega) dL_law_538 dL_law_539 dL_law_540 dL_law_541 dL_law_542 ?_
  refine zt_i2l C dL_law_543 ?_
  refine zt_ldc2 C v_l53 dL_law_544 ?_
  refine zt_land C dL_law_547 ?_
  refine zt_lor C dL_law_548 ?_
  refine zl_arg C hX hbl hbA hL (k := 3) (by omega) dL_law_549 dL_law_550 dL_law_551 dL_law_552 dL_law_553 ?_
  refine zt_cVi C [.long (((xs (n + 1)).toInt64 <<< ((32 : Int32).toInt64 &&& 63)) ||| ((xs (n + 2)).toInt64 &&& 4294967295)), .int (xs (n + 3))] (m_X10_feed C.2.2.2.2.2.2 h1) (za_mem (j := 27) rfl (by decide) (by decide)) (za_E_27 g cy M1 0 0) rfl vY_X10_feed vV_X10_feed (Nat.le_of_ble_eq_true rfl) (by exact ⟨(Nat.le_of_ble_eq_true rfl), (Nat.le_of_ble_eq_true rfl)⟩) (by exact ⟨(Nat.le_of_ble_eq_true rfl), (Nat.le_of_ble_eq_true rfl)⟩) dL_law_554 rfl (fun r2 M2 h2 => ?_)
  obtain ⟨rfl, hI2⟩ := h2
  exact zt_icmp_eq C 1545 dL_law_557 (by decide) (fun _ => kk M2 hI2) (fun q => absurd rfl q)
set_option maxRecDepth 100000 in
set_option maxHeartbeats 4000000 in
theorem zL_10 (C : za_C p s m #[Value.ref b] c code 4 RL g D cy) (hX : va_X b L xs s s.heap) (hbl : b < s.heap.size) (hbA : ¬ za_A g b) (hL : L ≤ 3072) {M : za_M} {n : Nat} (hI : zI M) (hn : n + 6 ≤ L) (kk : ∀ M', zI M' → zt p l e room_1 s m #[Value.ref b] below meth c 133 2551 Q g D cy 4 M' 1545 (zl_lv b g n) []) : zt p l e room_1 s m #[Value.ref b] below meth c 133 2551 Q g D cy 4 M 562 (zl_lv b g n) [] := by
  have h := zT_text (xs (n + 1)) M (fun r1 r2 M2 => r1 = r2 ∧ zI M2) hI (fun v M' h => ⟨rfl, h⟩)
  refine zt_aload_n C 1 dL_law_562 rfl rfl ?_
  refine zl_arg C hX hbl hbA hL (k := 1) (by omega) dL_law_563 dL_law_564 dL_law_565 dL_law_566 dL_law_567 ?_
  refine zt_cVi C [.int (xs (n + 1))] (m_X9_text C.2.2.2.2.2.2 h) (za_mem (j := 0) rfl (by decide) (by decide)) (za_E_0 g cy M 0 0) rfl vY_X9_text vV_X9_text (Nat.le_of_ble_eq_true rfl) (by exact ⟨(Nat.le_of_ble_eq_true rfl), (Nat.le_of_ble_eq_true rfl)⟩) (by exact ⟨(Nat.le_of_ble_eq_true rfl), (Nat.le_of_ble_eq_true rfl)⟩) dL_law_568 rfl (fun r1 M1 h1 => ?_)
  refine zt_aload_n C 2 dL_law_571 rfl rfl ?_
  refine zl_arg C hX hbl hbA hL (k := 1) (by omega) dL_law_572 dL_law_573 dL_law_574 dL_law_575 dL_law_576 ?_
  refine zt_cVi C [.int (xs (n + 1))] (m_X10_text C.2.2.2.2.2.2 h1) (za_mem (j := 27) rfl (by decide) (by decide)) (za_E_27 g cy M1 0 0) rfl vY_X10_text vV_X10_text (Nat.le_of_ble_eq_true rfl) (by exact ⟨(Nat.le_of_ble_eq_true rfl), (Nat.le_of_ble_eq_true rfl)⟩) (by exact ⟨(Nat.le_of_ble_eq_true rfl), (Nat.le_of_ble_eq_true rfl)⟩) dL_law_577 rfl (fun r2 M2 h2 => ?_)
  obtain ⟨rfl, hI2⟩ := h2
  exact zt_icmp_eq C 1545 dL_law_580 (by decide) (fun _ => kk M2 hI2) (fun q => absurd rfl q)
end ZLW
