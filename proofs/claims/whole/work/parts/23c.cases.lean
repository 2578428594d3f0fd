/-! THE LAW: its cases (written by wip/tools/gen24.py) -/
section CASES
variable {p : Program} {l : Launch} {e : Env} {s : State} {m : MethodId} {b : Nat} {below : List Frame} {meth : Method} {c : Code} {D : va_G} {cy : Nat → ClassId} {ad : Nat → Nat} {A : Nat → Prop} {Q : State → Prop} {kc ks : Nat} {Ls : Nat} {xs : Nat → Int32} {i : Nat} {x5 x6 : Option Value}
theorem lc_feed {st : St} (hR : RelE st) (hX : scrT s A ad Ls xs) (hi : i + 6 ≤ Ls) (hk : kc ≤ room_1.cells ∧ ks ≤ room_1.slots) (kk : ∀ u, RelE u → GQ p l e room_1 s m #[Value.ref b] below meth c D cy ad A (cL_law, RL, 7, ret) Q kc ks (fun _ => True) 1585 [some (.ref 140), some (.ref 0), some (.ref 31), some (.ref 30), some (.int (nI i)), x5, x6] [] u) : GQ p l e room_1 s m #[Value.ref b] below meth c D cy ad A (cL_law, RL, 7, ret) Q kc ks (fun _ => True) 200 [some (.ref 140), some (.ref 0), some (.ref 31), some (.ref 30), some (.int (nI i)), x5, x6] [] st := by
  obtain ⟨t, nk, n, np, nt, hR⟩ := hR
  have hp := pr_feed (l := l) (D := D) (cy := cy) hR (xs (i + 1)) (xs (i + 2)) (xs (i + 3)) (xs (i + 4)) (xs (i + 5))
  unfold Pair at hp
  refine n_ald1 eL_law_200 ?_
  refine q_arg (k := 1) (z := 1) (v := 1) hX (by omega) rfl (by decide) eL_law_201 eL_law_202 eL_law_204 eL_law_205 eL_law_206 ?_
  refine q_arg (k := 2) (z := 2) (v := 2) hX (by omega) rfl (by decide) eL_law_207 eL_law_208 eL_law_210 eL_law_211 eL_law_212 ?_
  refine q_arg (k := 3) (z := 3) (v := 3) hX (by omega) rfl (by decide) eL_law_213 eL_law_214 eL_law_216 eL_law_217 eL_law_218 ?_
  refine q_arg (k := 4) (z := 4) (v := 4) hX (by omega) rfl (by decide) eL_law_219 eL_law_220 eL_law_222 eL_law_223 eL_law_224 ?_
  refine q_arg (k := 5) (z := 5) (v := 5) hX (by omega) rfl (by decide) eL_law_225 eL_law_226 eL_law_228 eL_law_229 eL_law_230 ?_
  refine q_callVi (ci := 10) (as := [.int (xs (i + 1)), .int (xs (i + 2)), .int (xs (i + 3)), .int (xs (i + 4)), .int (xs (i + 5))]) hp rfl (Nat.le_of_ble_eq_true rfl) (Nat.le_of_ble_eq_true rfl) rfl cv_L_29 eL_law_231 (⟨Nat.le_of_ble_eq_true rfl, Nat.le_of_ble_eq_true rfl⟩) rfl rfl (Nat.le_of_ble_eq_true rfl) hk (fun r u h => ?_)
  refine n_ald2 eL_law_234 ?_
  refine q_arg (k := 1) (z := 1) (v := 1) hX (by omega) rfl (by decide) eL_law_235 eL_law_236 eL_law_238 eL_law_239 eL_law_240 ?_
  refine q_arg (k := 2) (z := 2) (v := 2) hX (by omega) rfl (by decide) eL_law_241 eL_law_242 eL_law_244 eL_law_245 eL_law_246 ?_
  refine q_arg (k := 3) (z := 3) (v := 3) hX (by omega) rfl (by decide) eL_law_247 eL_law_248 eL_law_250 eL_law_251 eL_law_252 ?_
  refine q_arg (k := 4) (z := 4) (v := 4) hX (by omega) rfl (by decide) eL_law_253 eL_law_254 eL_law_256 eL_law_257 eL_law_258 ?_
  refine q_arg (k := 5) (z := 5) (v := 5) hX (by omega) rfl (by decide) eL_law_259 eL_law_260 eL_law_262 eL_law_263 eL_law_264 ?_
  refine q_callVi (ci := 11) (as := [.int (xs (i + 1)), .int (xs (i + 2)), .int (xs (i + 3)), .int (xs (i + 4)), .int (xs (i + 5))]) h rfl (Nat.le_of_ble_eq_true rfl) (Nat.le_of_ble_eq_true rfl) rfl cv_L_33 eL_law_265 (⟨Nat.le_of_ble_eq_true rfl, Nat.le_of_ble_eq_true rfl⟩) rfl rfl (Nat.le_of_ble_eq_true rfl) hk (fun r2 u2 h2 => ?_)
  refine n_icmp_eq eL_law_268 (fun _ => kk u2 h2.2) (fun q => absurd h2.1.symm q)
theorem lc_back {st : St} (hR : RelE st) (hX : scrT s A ad Ls xs) (hi : i + 6 ≤ Ls) (hk : kc ≤ room_1.cells ∧ ks ≤ room_1.slots) (kk : ∀ u, RelE u → GQ p l e room_1 s m #[Value.ref b] below meth c D cy ad A (cL_law, RL, 7, ret) Q kc ks (fun _ => True) 1585 [some (.ref 140), some (.ref 0), some (.ref 31), some (.ref 30), some (.int (nI i)), x5, x6] [] u) : GQ p l e room_1 s m #[Value.ref b] below meth c D cy ad A (cL_law, RL, 7, ret) Q kc ks (fun _ => True) 273 [some (.ref 140), some (.ref 0), some (.ref 31), some (.ref 30), some (.int (nI i)), x5, x6] [] st := by
  obtain ⟨t, nk, n, np, nt, hR⟩ := hR
  have hp := pr_back (l := l) (D := D) (cy := cy) hR (xs (i + 1))
  unfold Pair at hp
  refine n_ald1 eL_law_273 ?_
  refine q_arg (k := 1) (z := 1) (v := 1) hX (by omega) rfl (by decide) eL_law_274 eL_law_275 eL_law_277 eL_law_278 eL_law_279 ?_
  refine q_callVi (ci := 10) (as := [.int (xs (i + 1))]) hp rfl (Nat.le_of_ble_eq_true rfl) (Nat.le_of_ble_eq_true rfl) rfl cv_L_34 eL_law_280 (⟨Nat.le_of_ble_eq_true rfl, Nat.le_of_ble_eq_true rfl⟩) rfl rfl (Nat.le_of_ble_eq_true rfl) hk (fun r u h => ?_)
  refine n_ald2 eL_law_283 ?_
  refine q_arg (k := 1) (z := 1) (v := 1) hX (by omega) rfl (by decide) eL_law_284 eL_law_285 eL_law_287 eL_law_288 eL_law_289 ?_
  refine q_callVi (ci := 11) (as := [.int (xs (i + 1))]) h rfl (Nat.le_of_ble_eq_true rfl) (Nat.le_of_ble_eq_true rfl) rfl cv_L_38 eL_law_290 (⟨Nat.le_of_ble_eq_true rfl, Nat.le_of_ble_eq_true rfl⟩) rfl rfl (Nat.le_of_ble_eq_true rfl) hk (fun r2 u2 h2 => ?_)
  refine n_icmp_eq eL_law_293 (fun _ => kk u2 h2.2) (fun q => absurd h2.1.symm q)
theorem lc_read {st : St} (hR : RelE st) (hX : scrT s A ad Ls xs) (hi : i + 6 ≤ Ls) (hk : kc ≤ room_1.cells ∧ ks ≤ room_1.slots) (kk : ∀ u, RelE u → GQ p l e room_1 s m #[Value.ref b] below meth c D cy ad A (cL_law, RL, 7, ret) Q kc ks (fun _ => True) 1585 [some (.ref 140), some (.ref 0), some (.ref 31), some (.ref 30), some (.int (nI i)), x5, x6] [] u) : GQ p l e room_1 s m #[Value.ref b] below meth c D cy ad A (cL_law, RL, 7, ret) Q kc ks (fun _ => True) 298 [some (.ref 140), some (.ref 0), some (.ref 31), some (.ref 30), some (.int (nI i)), x5, x6] [] st := by
  obtain ⟨t, nk, n, np, nt, hR⟩ := hR
  have hp := pr_read (l := l) (D := D) (cy := cy) hR 
  unfold Pair at hp
  refine n_ald1 eL_law_298 ?_
  refine q_callVi (ci := 10) (as := []) hp rfl (Nat.le_of_ble_eq_true rfl) (Nat.le_of_ble_eq_true rfl) rfl cv_L_39 eL_law_299 (⟨Nat.le_of_ble_eq_true rfl, Nat.le_of_ble_eq_true rfl⟩) rfl rfl (Nat.le_of_ble_eq_true rfl) hk (fun r u h => ?_)
  refine n_ald2 eL_law_302 ?_
  refine q_callVi (ci := 11) (as := []) h rfl (Nat.le_of_ble_eq_true rfl) (Nat.le_of_ble_eq_true rfl) rfl cv_L_43 eL_law_303 (⟨Nat.le_of_ble_eq_true rfl, Nat.le_of_ble_eq_true rfl⟩) rfl rfl (Nat.le_of_ble_eq_true rfl) hk (fun r2 u2 h2 => ?_)
  refine n_icmp_eq eL_law_306 (fun _ => kk u2 h2.2) (fun q => absurd h2.1.symm q)
theorem lc_place {st : St} (hR : RelE st) (hX : scrT s A ad Ls xs) (hi : i + 6 ≤ Ls) (hk : kc ≤ room_1.cells ∧ ks ≤ room_1.slots) (kk : ∀ u, RelE u → GQ p l e room_1 s m #[Value.ref b] below meth c D cy ad A (cL_law, RL, 7, ret) Q kc ks (fun _ => True) 1585 [some (.ref 140), some (.ref 0), some (.ref 31), some (.ref 30), some (.int (nI i)), x5, x6] [] u) : GQ p l e room_1 s m #[Value.ref b] below meth c D cy ad A (cL_law, RL, 7, ret) Q kc ks (fun _ => True) 311 [some (.ref 140), some (.ref 0), some (.ref 31), some (.ref 30), some (.int (nI i)), x5, x6] [] st := by
  obtain ⟨t, nk, n, np, nt, hR⟩ := hR
  have hp := pr_place (l := l) (D := D) (cy := cy) hR 
  unfold Pair at hp
  refine n_ald1 eL_law_311 ?_
  refine q_callVi (ci := 10) (as := []) hp rfl (Nat.le_of_ble_eq_true rfl) (Nat.le_of_ble_eq_true rfl) rfl cv_L_44 eL_law_312 (⟨Nat.le_of_ble_eq_true rfl, Nat.le_of_ble_eq_true rfl⟩) rfl rfl (Nat.le_of_ble_eq_true rfl) hk (fun r u h => ?_)
  refine n_ald2 eL_law_315 ?_
  refine q_callVi (ci := 11) (as := []) h rfl (Nat.le_of_ble_eq_true rfl) (Nat.le_of_ble_eq_true rfl) rfl cv_L_47 eL_law_316 (⟨Nat.le_of_ble_eq_true rfl, Nat.le_of_ble_eq_true rfl⟩) rfl rfl (Nat.le_of_ble_eq_true rfl) hk (fun r2 u2 h2 => ?_)
  refine n_icmp_eq eL_law_319 (fun _ => kk u2 h2.2) (fun q => absurd h2.1.symm q)
theorem lc_lot {st : St} (hR : RelE st) (hX : scrT s A ad Ls xs) (hi : i + 6 ≤ Ls) (hk : kc ≤ room_1.cells ∧ ks ≤ room_1.slots) (kk : ∀ u, RelE u → GQ p l e room_1 s m #[Value.ref b] below meth c D cy ad A (cL_law, RL, 7, ret) Q kc ks (fun _ => True) 1585 [some (.ref 140), some (.ref 0), some (.ref 31), some (.ref 30), some (.int (nI i)), x5, x6] [] u) : GQ p l e room_1 s m #[Value.ref b] below meth c D cy ad A (cL_law, RL, 7, ret) Q kc ks (fun _ => True) 324 [some (.ref 140), some (.ref 0), some (.ref 31), some (.ref 30), some (.int (nI i)), x5, x6] [] st := by
  obtain ⟨t, nk, n, np, nt, hR⟩ := hR
  have hp := pr_lot (l := l) (D := D) (cy := cy) hR (xs (i + 1)) (xs (i + 2)) (xs (i + 3))
  unfold Pair at hp
  refine n_ald1 eL_law_324 ?_
  refine q_arg (k := 1) (z := 1) (v := 1) hX (by omega) rfl (by decide) eL_law_325 eL_law_326 eL_law_328 eL_law_329 eL_law_330 ?_
  refine q_arg (k := 2) (z := 2) (v := 2) hX (by omega) rfl (by decide) eL_law_331 eL_law_332 eL_law_334 eL_law_335 eL_law_336 ?_
  refine q_arg (k := 3) (z := 3) (v := 3) hX (by omega) rfl (by decide) eL_law_337 eL_law_338 eL_law_340 eL_law_341 eL_law_342 ?_
  refine q_callVi (ci := 10) (as := [.int (xs (i + 1)), .int (xs (i + 2)), .int (xs (i + 3))]) hp rfl (Nat.le_of_ble_eq_true rfl) (Nat.le_of_ble_eq_true rfl) rfl cv_L_48 eL_law_343 (⟨Nat.le_of_ble_eq_true rfl, Nat.le_of_ble_eq_true rfl⟩) rfl rfl (Nat.le_of_ble_eq_true rfl) hk (fun r u h => ?_)
  refine n_ald2 eL_law_346 ?_
  refine q_arg (k := 1) (z := 1) (v := 1) hX (by omega) rfl (by decide) eL_law_347 eL_law_348 eL_law_350 eL_law_351 eL_law_352 ?_
  refine q_arg (k := 2) (z := 2) (v := 2) hX (by omega) rfl (by decide) eL_law_353 eL_law_354 eL_law_356 eL_law_357 eL_law_358 ?_
  refine q_arg (k := 3) (z := 3) (v := 3) hX (by omega) rfl (by decide) eL_law_359 eL_law_360 eL_law_362 eL_law_363 eL_law_364 ?_
  refine q_callVi (ci := 11) (as := [.int (xs (i + 1)), .int (xs (i + 2)), .int (xs (i + 3))]) h rfl (Nat.le_of_ble_eq_true rfl) (Nat.le_of_ble_eq_true rfl) rfl cv_L_52 eL_law_365 (⟨Nat.le_of_ble_eq_true rfl, Nat.le_of_ble_eq_true rfl⟩) rfl rfl (Nat.le_of_ble_eq_true rfl) hk (fun r2 u2 h2 => ?_)
  refine n_icmp_eq eL_law_368 (fun _ => kk u2 h2.2) (fun q => absurd h2.1.symm q)
theorem lc_key {st : St} (hR : RelE st) (hX : scrT s A ad Ls xs) (hi : i + 6 ≤ Ls) (hk : kc ≤ room_1.cells ∧ ks ≤ room_1.slots) (kk : ∀ u, RelE u → GQ p l e room_1 s m #[Value.ref b] below meth c D cy ad A (cL_law, RL, 7, ret) Q kc ks (fun _ => True) 1585 [some (.ref 140), some (.ref 0), some (.ref 31), some (.ref 30), some (.int (nI i)), x5, x6] [] u) : GQ p l e room_1 s m #[Value.ref b] below meth c D cy ad A (cL_law, RL, 7, ret) Q kc ks (fun _ => True) 373 [some (.ref 140), some (.ref 0), some (.ref 31), some (.ref 30), some (.int (nI i)), x5, x6] [] st := by
  obtain ⟨t, nk, n, np, nt, hR⟩ := hR
  have hp := pr_key (l := l) (D := D) (cy := cy) hR (xs (i + 1)) (xs (i + 2)) (xs (i + 3))
  unfold Pair at hp
  refine n_ald1 eL_law_373 ?_
  refine q_arg (k := 1) (z := 1) (v := 1) hX (by omega) rfl (by decide) eL_law_374 eL_law_375 eL_law_377 eL_law_378 eL_law_379 ?_
  refine q_arg (k := 2) (z := 2) (v := 2) hX (by omega) rfl (by decide) eL_law_380 eL_law_381 eL_law_383 eL_law_384 eL_law_385 ?_
  refine q_arg (k := 3) (z := 3) (v := 3) hX (by omega) rfl (by decide) eL_law_386 eL_law_387 eL_law_389 eL_law_390 eL_law_391 ?_
  refine q_callVi (ci := 10) (as := [.int (xs (i + 1)), .int (xs (i + 2)), .int (xs (i + 3))]) hp rfl (Nat.le_of_ble_eq_true rfl) (Nat.le_of_ble_eq_true rfl) rfl cv_L_53 eL_law_392 (⟨Nat.le_of_ble_eq_true rfl, Nat.le_of_ble_eq_true rfl⟩) rfl rfl (Nat.le_of_ble_eq_true rfl) hk (fun r u h => ?_)
  refine n_ald2 eL_law_395 ?_
  refine q_arg (k := 1) (z := 1) (v := 1) hX (by omega) rfl (by decide) eL_law_396 eL_law_397 eL_law_399 eL_law_400 eL_law_401 ?_
  refine q_arg (k := 2) (z := 2) (v := 2) hX (by omega) rfl (by decide) eL_law_402 eL_law_403 eL_law_405 eL_law_406 eL_law_407 ?_
  refine q_arg (k := 3) (z := 3) (v := 3) hX (by omega) rfl (by decide) eL_law_408 eL_law_409 eL_law_411 eL_law_412 eL_law_413 ?_
  refine q_callVi (ci := 11) (as := [.int (xs (i + 1)), .int (xs (i + 2)), .int (xs (i + 3))]) h rfl (Nat.le_of_ble_eq_true rfl) (Nat.le_of_ble_eq_true rfl) rfl cv_L_56 eL_law_414 (⟨Nat.le_of_ble_eq_true rfl, Nat.le_of_ble_eq_true rfl⟩) rfl rfl (Nat.le_of_ble_eq_true rfl) hk (fun r2 u2 h2 => ?_)
  refine n_icmp_eq eL_law_417 (fun _ => kk u2 h2.2) (fun q => absurd h2.1.symm q)
theorem lc_dead {st : St} (hR : RelE st) (hX : scrT s A ad Ls xs) (hi : i + 6 ≤ Ls) (hk : kc ≤ room_1.cells ∧ ks ≤ room_1.slots) (kk : ∀ u, RelE u → GQ p l e room_1 s m #[Value.ref b] below meth c D cy ad A (cL_law, RL, 7, ret) Q kc ks (fun _ => True) 1585 [some (.ref 140), some (.ref 0), some (.ref 31), some (.ref 30), some (.int (nI i)), x5, x6] [] u) : GQ p l e room_1 s m #[Value.ref b] below meth c D cy ad A (cL_law, RL, 7, ret) Q kc ks (fun _ => True) 422 [some (.ref 140), some (.ref 0), some (.ref 31), some (.ref 30), some (.int (nI i)), x5, x6] [] st := by
  obtain ⟨t, nk, n, np, nt, hR⟩ := hR
  have hp := pr_dead (l := l) (D := D) (cy := cy) hR (xs (i + 1))
  unfold Pair at hp
  refine n_ald1 eL_law_422 ?_
  refine q_arg (k := 1) (z := 1) (v := 1) hX (by omega) rfl (by decide) eL_law_423 eL_law_424 eL_law_426 eL_law_427 eL_law_428 ?_
  refine q_callVi (ci := 10) (as := [.int (xs (i + 1))]) hp rfl (Nat.le_of_ble_eq_true rfl) (Nat.le_of_ble_eq_true rfl) rfl cv_L_57 eL_law_429 (⟨Nat.le_of_ble_eq_true rfl, Nat.le_of_ble_eq_true rfl⟩) rfl rfl (Nat.le_of_ble_eq_true rfl) hk (fun r u h => ?_)
  refine n_ald2 eL_law_432 ?_
  refine q_arg (k := 1) (z := 1) (v := 1) hX (by omega) rfl (by decide) eL_law_433 eL_law_434 eL_law_436 eL_law_437 eL_law_438 ?_
  refine q_callVi (ci := 11) (as := [.int (xs (i + 1))]) h rfl (Nat.le_of_ble_eq_true rfl) (Nat.le_of_ble_eq_true rfl) rfl cv_L_61 eL_law_439 (⟨Nat.le_of_ble_eq_true rfl, Nat.le_of_ble_eq_true rfl⟩) rfl rfl (Nat.le_of_ble_eq_true rfl) hk (fun r2 u2 h2 => ?_)
  refine n_icmp_eq eL_law_442 (fun _ => kk u2 h2.2) (fun q => absurd h2.1.symm q)
theorem lc_mask {st : St} (hR : RelE st) (hX : scrT s A ad Ls xs) (hi : i + 6 ≤ Ls) (hk : kc ≤ room_1.cells ∧ ks ≤ room_1.slots) (kk : ∀ u, RelE u → GQ p l e room_1 s m #[Value.ref b] below meth c D cy ad A (cL_law, RL, 7, ret) Q kc ks (fun _ => True) 1585 [some (.ref 140), some (.ref 0), some (.ref 31), some (.ref 30), some (.int (nI i)), x5, x6] [] u) : GQ p l e room_1 s m #[Value.ref b] below meth c D cy ad A (cL_law, RL, 7, ret) Q kc ks (fun _ => True) 447 [some (.ref 140), some (.ref 0), some (.ref 31), some (.ref 30), some (.int (nI i)), x5, x6] [] st := by
  obtain ⟨t, nk, n, np, nt, hR⟩ := hR
  have hp := pr_mask (l := l) (D := D) (cy := cy) hR (xs (i + 1)) (xs (i + 2)) (xs (i + 3))
  unfold Pair at hp
  refine n_ald1 eL_law_447 ?_
  refine q_arg (k := 1) (z := 1) (v := 1) hX (by omega) rfl (by decide) eL_law_448 eL_law_449 eL_law_451 eL_law_452 eL_law_453 ?_
  refine q_arg (k := 2) (z := 2) (v := 2) hX (by omega) rfl (by decide) eL_law_454 eL_law_455 eL_law_457 eL_law_458 eL_law_459 ?_
  refine q_arg (k := 3) (z := 3) (v := 3) hX (by omega) rfl (by decide) eL_law_460 eL_law_461 eL_law_463 eL_law_464 eL_law_465 ?_
  refine q_callVi (ci := 10) (as := [.int (xs (i + 1)), .int (xs (i + 2)), .int (xs (i + 3))]) hp rfl (Nat.le_of_ble_eq_true rfl) (Nat.le_of_ble_eq_true rfl) rfl cv_L_62 eL_law_466 (⟨Nat.le_of_ble_eq_true rfl, Nat.le_of_ble_eq_true rfl⟩) rfl rfl (Nat.le_of_ble_eq_true rfl) hk (fun r u h => ?_)
  refine n_ald2 eL_law_469 ?_
  refine q_arg (k := 1) (z := 1) (v := 1) hX (by omega) rfl (by decide) eL_law_470 eL_law_471 eL_law_473 eL_law_474 eL_law_475 ?_
  refine q_arg (k := 2) (z := 2) (v := 2) hX (by omega) rfl (by decide) eL_law_476 eL_law_477 eL_law_479 eL_law_480 eL_law_481 ?_
  refine q_arg (k := 3) (z := 3) (v := 3) hX (by omega) rfl (by decide) eL_law_482 eL_law_483 eL_law_485 eL_law_486 eL_law_487 ?_
  refine q_callVi (ci := 11) (as := [.int (xs (i + 1)), .int (xs (i + 2)), .int (xs (i + 3))]) h rfl (Nat.le_of_ble_eq_true rfl) (Nat.le_of_ble_eq_true rfl) rfl cv_L_65 eL_law_488 (⟨Nat.le_of_ble_eq_true rfl, Nat.le_of_ble_eq_true rfl⟩) rfl rfl (Nat.le_of_ble_eq_true rfl) hk (fun r2 u2 h2 => ?_)
  refine n_icmp_eq eL_law_491 (fun _ => kk u2 h2.2) (fun q => absurd h2.1.symm q)
theorem lc_work {st : St} (hR : RelE st) (hX : scrT s A ad Ls xs) (hi : i + 6 ≤ Ls) (hk : kc ≤ room_1.cells ∧ ks ≤ room_1.slots) (kk : ∀ u, RelE u → GQ p l e room_1 s m #[Value.ref b] below meth c D cy ad A (cL_law, RL, 7, ret) Q kc ks (fun _ => True) 1585 [some (.ref 140), some (.ref 0), some (.ref 31), some (.ref 30), some (.int (nI i)), x5, x6] [] u) : GQ p l e room_1 s m #[Value.ref b] below meth c D cy ad A (cL_law, RL, 7, ret) Q kc ks (fun _ => True) 496 [some (.ref 140), some (.ref 0), some (.ref 31), some (.ref 30), some (.int (nI i)), x5, x6] [] st := by
  obtain ⟨t, nk, n, np, nt, hR⟩ := hR
  have hp := pr_work (l := l) (D := D) (cy := cy) hR (xs (i + 1)) (xs (i + 2)) (xs (i + 3))
  unfold Pair at hp
  refine n_ald1 eL_law_496 ?_
  refine q_arg (k := 1) (z := 1) (v := 1) hX (by omega) rfl (by decide) eL_law_497 eL_law_498 eL_law_500 eL_law_501 eL_law_502 ?_
  refine q_arg (k := 2) (z := 2) (v := 2) hX (by omega) rfl (by decide) eL_law_503 eL_law_504 eL_law_506 eL_law_507 eL_law_508 ?_
  refine q_arg (k := 3) (z := 3) (v := 3) hX (by omega) rfl (by decide) eL_law_509 eL_law_510 eL_law_512 eL_law_513 eL_law_514 ?_
  refine q_callVi (ci := 10) (as := [.int (xs (i + 1)), .int (xs (i + 2)), .int (xs (i + 3))]) hp rfl (Nat.le_of_ble_eq_true rfl) (Nat.le_of_ble_eq_true rfl) rfl cv_L_66 eL_law_515 (⟨Nat.le_of_ble_eq_true rfl, Nat.le_of_ble_eq_true rfl⟩) rfl rfl (Nat.le_of_ble_eq_true rfl) hk (fun r u h => ?_)
  refine n_ald2 eL_law_518 ?_
  refine q_arg (k := 1) (z := 1) (v := 1) hX (by omega) rfl (by decide) eL_law_519 eL_law_520 eL_law_522 eL_law_523 eL_law_524 ?_
  refine q_arg (k := 2) (z := 2) (v := 2) hX (by omega) rfl (by decide) eL_law_525 eL_law_526 eL_law_528 eL_law_529 eL_law_530 ?_
  refine q_arg (k := 3) (z := 3) (v := 3) hX (by omega) rfl (by decide) eL_law_531 eL_law_532 eL_law_534 eL_law_535 eL_law_536 ?_
  refine q_callVi (ci := 11) (as := [.int (xs (i + 1)), .int (xs (i + 2)), .int (xs (i + 3))]) h rfl (Nat.le_of_ble_eq_true rfl) (Nat.le_of_ble_eq_true rfl) rfl cv_L_69 eL_law_537 (⟨Nat.le_of_ble_eq_true rfl, Nat.le_of_ble_eq_true rfl⟩) rfl rfl (Nat.le_of_ble_eq_true rfl) hk (fun r2 u2 h2 => ?_)
  refine n_icmp_eq eL_law_540 (fun _ => kk u2 h2.2) (fun q => absurd h2.1.symm q)
theorem lc_plain {st : St} (hR : RelE st) (hX : scrT s A ad Ls xs) (hi : i + 6 ≤ Ls) (hk : kc ≤ room_1.cells ∧ ks ≤ room_1.slots) (kk : ∀ u, RelE u → GQ p l e room_1 s m #[Value.ref b] below meth c D cy ad A (cL_law, RL, 7, ret) Q kc ks (fun _ => True) 1585 [some (.ref 140), some (.ref 0), some (.ref 31), some (.ref 30), some (.int (nI i)), x5, x6] [] u) : GQ p l e room_1 s m #[Value.ref b] below meth c D cy ad A (cL_law, RL, 7, ret) Q kc ks (fun _ => True) 545 [some (.ref 140), some (.ref 0), some (.ref 31), some (.ref 30), some (.int (nI i)), x5, x6] [] st := by
  obtain ⟨t, nk, n, np, nt, hR⟩ := hR
  have hp := pr_plain (l := l) (D := D) (cy := cy) hR (xs (i + 1)) (xs (i + 2)) (xs (i + 3))
  unfold Pair at hp
  refine n_ald1 eL_law_545 ?_
  refine q_arg (k := 1) (z := 1) (v := 1) hX (by omega) rfl (by decide) eL_law_546 eL_law_547 eL_law_549 eL_law_550 eL_law_551 ?_
  refine q_arg (k := 2) (z := 2) (v := 2) hX (by omega) rfl (by decide) eL_law_552 eL_law_553 eL_law_555 eL_law_556 eL_law_557 ?_
  refine q_arg (k := 3) (z := 3) (v := 3) hX (by omega) rfl (by decide) eL_law_558 eL_law_559 eL_law_561 eL_law_562 eL_law_563 ?_
  refine q_callVi (ci := 10) (as := [.int (xs (i + 1)), .int (xs (i + 2)), .int (xs (i + 3))]) hp rfl (Nat.le_of_ble_eq_true rfl) (Nat.le_of_ble_eq_true rfl) rfl cv_L_70 eL_law_564 (⟨Nat.le_of_ble_eq_true rfl, Nat.le_of_ble_eq_true rfl⟩) rfl rfl (Nat.le_of_ble_eq_true rfl) hk (fun r u h => ?_)
  refine n_ald2 eL_law_567 ?_
  refine q_arg (k := 1) (z := 1) (v := 1) hX (by omega) rfl (by decide) eL_law_568 eL_law_569 eL_law_571 eL_law_572 eL_law_573 ?_
  refine q_arg (k := 2) (z := 2) (v := 2) hX (by omega) rfl (by decide) eL_law_574 eL_law_575 eL_law_577 eL_law_578 eL_law_579 ?_
  refine q_arg (k := 3) (z := 3) (v := 3) hX (by omega) rfl (by decide) eL_law_580 eL_law_581 eL_law_583 eL_law_584 eL_law_585 ?_
  refine q_callVi (ci := 11) (as := [.int (xs (i + 1)), .int (xs (i + 2)), .int (xs (i + 3))]) h rfl (Nat.le_of_ble_eq_true rfl) (Nat.le_of_ble_eq_true rfl) rfl cv_L_73 eL_law_586 (⟨Nat.le_of_ble_eq_true rfl, Nat.le_of_ble_eq_true rfl⟩) rfl rfl (Nat.le_of_ble_eq_true rfl) hk (fun r2 u2 h2 => ?_)
  refine n_icmp_eq eL_law_589 (fun _ => kk u2 h2.2) (fun q => absurd h2.1.symm q)
theorem lc_anew {st : St} (hR : RelE st) (hX : scrT s A ad Ls xs) (hi : i + 6 ≤ Ls) (hk : kc ≤ room_1.cells ∧ ks ≤ room_1.slots) (kk : ∀ u, RelE u → GQ p l e room_1 s m #[Value.ref b] below meth c D cy ad A (cL_law, RL, 7, ret) Q kc ks (fun _ => True) 1585 [some (.ref 140), some (.ref 0), some (.ref 31), some (.ref 30), some (.int (nI i)), x5, x6] [] u) : GQ p l e room_1 s m #[Value.ref b] below meth c D cy ad A (cL_law, RL, 7, ret) Q kc ks (fun _ => True) 594 [some (.ref 140), some (.ref 0), some (.ref 31), some (.ref 30), some (.int (nI i)), x5, x6] [] st := by
  obtain ⟨t, nk, n, np, nt, hR⟩ := hR
  have hp := pr_anew (l := l) (D := D) (cy := cy) hR (xs (i + 1)) (xs (i + 2)) (xs (i + 3))
  unfold Pair at hp
  refine n_ald1 eL_law_594 ?_
  refine q_arg (k := 1) (z := 1) (v := 1) hX (by omega) rfl (by decide) eL_law_595 eL_law_596 eL_law_598 eL_law_599 eL_law_600 ?_
  refine q_arg (k := 2) (z := 2) (v := 2) hX (by omega) rfl (by decide) eL_law_601 eL_law_602 eL_law_604 eL_law_605 eL_law_606 ?_
  refine q_arg (k := 3) (z := 3) (v := 3) hX (by omega) rfl (by decide) eL_law_607 eL_law_608 eL_law_610 eL_law_611 eL_law_612 ?_
  refine q_callVi (ci := 10) (as := [.int (xs (i + 1)), .int (xs (i + 2)), .int (xs (i + 3))]) hp rfl (Nat.le_of_ble_eq_true rfl) (Nat.le_of_ble_eq_true rfl) rfl cv_L_74 eL_law_613 (⟨Nat.le_of_ble_eq_true rfl, Nat.le_of_ble_eq_true rfl⟩) rfl rfl (Nat.le_of_ble_eq_true rfl) hk (fun r u h => ?_)
  refine n_ald2 eL_law_616 ?_
  refine q_arg (k := 1) (z := 1) (v := 1) hX (by omega) rfl (by decide) eL_law_617 eL_law_618 eL_law_620 eL_law_621 eL_law_622 ?_
  refine q_arg (k := 2) (z := 2) (v := 2) hX (by omega) rfl (by decide) eL_law_623 eL_law_624 eL_law_626 eL_law_627 eL_law_628 ?_
  refine q_arg (k := 3) (z := 3) (v := 3) hX (by omega) rfl (by decide) eL_law_629 eL_law_630 eL_law_632 eL_law_633 eL_law_634 ?_
  refine q_callVi (ci := 11) (as := [.int (xs (i + 1)), .int (xs (i + 2)), .int (xs (i + 3))]) h rfl (Nat.le_of_ble_eq_true rfl) (Nat.le_of_ble_eq_true rfl) rfl cv_L_77 eL_law_635 (⟨Nat.le_of_ble_eq_true rfl, Nat.le_of_ble_eq_true rfl⟩) rfl rfl (Nat.le_of_ble_eq_true rfl) hk (fun r2 u2 h2 => ?_)
  refine n_icmp_eq eL_law_638 (fun _ => kk u2 h2.2) (fun q => absurd h2.1.symm q)
theorem lc_noise {st : St} (hR : RelE st) (hX : scrT s A ad Ls xs) (hi : i + 6 ≤ Ls) (hk : kc ≤ room_1.cells ∧ ks ≤ room_1.slots) (kk : ∀ u, RelE u → GQ p l e room_1 s m #[Value.ref b] below meth c D cy ad A (cL_law, RL, 7, ret) Q kc ks (fun _ => True) 1585 [some (.ref 140), some (.ref 0), some (.ref 31), some (.ref 30), some (.int (nI i)), x5, x6] [] u) : GQ p l e room_1 s m #[Value.ref b] below meth c D cy ad A (cL_law, RL, 7, ret) Q kc ks (fun _ => True) 711 [some (.ref 140), some (.ref 0), some (.ref 31), some (.ref 30), some (.int (nI i)), x5, x6] [] st := by
  obtain ⟨t, nk, n, np, nt, hR⟩ := hR
  have hp := pr_noise (l := l) (D := D) (cy := cy) hR (xs (i + 1))
  unfold Pair at hp
  refine n_ald1 eL_law_711 ?_
  refine q_arg (k := 1) (z := 1) (v := 1) hX (by omega) rfl (by decide) eL_law_712 eL_law_713 eL_law_715 eL_law_716 eL_law_717 ?_
  refine q_callVi (ci := 10) (as := [.int (xs (i + 1))]) hp rfl (Nat.le_of_ble_eq_true rfl) (Nat.le_of_ble_eq_true rfl) rfl cv_L_85 eL_law_718 (⟨Nat.le_of_ble_eq_true rfl, Nat.le_of_ble_eq_true rfl⟩) rfl rfl (Nat.le_of_ble_eq_true rfl) hk (fun r u h => ?_)
  refine n_ald2 eL_law_721 ?_
  refine q_arg (k := 1) (z := 1) (v := 1) hX (by omega) rfl (by decide) eL_law_722 eL_law_723 eL_law_725 eL_law_726 eL_law_727 ?_
  refine q_callVi (ci := 11) (as := [.int (xs (i + 1))]) h rfl (Nat.le_of_ble_eq_true rfl) (Nat.le_of_ble_eq_true rfl) rfl cv_L_88 eL_law_728 (⟨Nat.le_of_ble_eq_true rfl, Nat.le_of_ble_eq_true rfl⟩) rfl rfl (Nat.le_of_ble_eq_true rfl) hk (fun r2 u2 h2 => ?_)
  refine n_icmp_eq eL_law_731 (fun _ => kk u2 h2.2) (fun q => absurd h2.1.symm q)
theorem lc_open {st : St} (hR : RelE st) (hX : scrT s A ad Ls xs) (hi : i + 6 ≤ Ls) (hk : kc ≤ room_1.cells ∧ ks ≤ room_1.slots) (kk : ∀ u, RelE u → GQ p l e room_1 s m #[Value.ref b] below meth c D cy ad A (cL_law, RL, 7, ret) Q kc ks (fun _ => True) 1585 [some (.ref 140), some (.ref 0), some (.ref 31), some (.ref 30), some (.int (nI i)), x5, x6] [] u) : GQ p l e room_1 s m #[Value.ref b] below meth c D cy ad A (cL_law, RL, 7, ret) Q kc ks (fun _ => True) 736 [some (.ref 140), some (.ref 0), some (.ref 31), some (.ref 30), some (.int (nI i)), x5, x6] [] st := by
  obtain ⟨t, nk, n, np, nt, hR⟩ := hR
  have hp := pr_open (l := l) (D := D) (cy := cy) hR (xs (i + 1))
  unfold Pair at hp
  refine n_ald1 eL_law_736 ?_
  refine q_arg (k := 1) (z := 1) (v := 1) hX (by omega) rfl (by decide) eL_law_737 eL_law_738 eL_law_740 eL_law_741 eL_law_742 ?_
  refine q_callVi (ci := 10) (as := [.int (xs (i + 1))]) hp rfl (Nat.le_of_ble_eq_true rfl) (Nat.le_of_ble_eq_true rfl) rfl cv_L_89 eL_law_743 (⟨Nat.le_of_ble_eq_true rfl, Nat.le_of_ble_eq_true rfl⟩) rfl rfl (Nat.le_of_ble_eq_true rfl) hk (fun r u h => ?_)
  refine n_ald2 eL_law_746 ?_
  refine q_arg (k := 1) (z := 1) (v := 1) hX (by omega) rfl (by decide) eL_law_747 eL_law_748 eL_law_750 eL_law_751 eL_law_752 ?_
  refine q_callVi (ci := 11) (as := [.int (xs (i + 1))]) h rfl (Nat.le_of_ble_eq_true rfl) (Nat.le_of_ble_eq_true rfl) rfl cv_L_92 eL_law_753 (⟨Nat.le_of_ble_eq_true rfl, Nat.le_of_ble_eq_true rfl⟩) rfl rfl (Nat.le_of_ble_eq_true rfl) hk (fun r2 u2 h2 => ?_)
  refine n_icmp_eq eL_law_756 (fun _ => kk u2 h2.2) (fun q => absurd h2.1.symm q)
theorem lc_budget {st : St} (hR : RelE st) (hX : scrT s A ad Ls xs) (hi : i + 6 ≤ Ls) (hk : kc ≤ room_1.cells ∧ ks ≤ room_1.slots) (kk : ∀ u, RelE u → GQ p l e room_1 s m #[Value.ref b] below meth c D cy ad A (cL_law, RL, 7, ret) Q kc ks (fun _ => True) 1585 [some (.ref 140), some (.ref 0), some (.ref 31), some (.ref 30), some (.int (nI i)), x5, x6] [] u) : GQ p l e room_1 s m #[Value.ref b] below meth c D cy ad A (cL_law, RL, 7, ret) Q kc ks (fun _ => True) 761 [some (.ref 140), some (.ref 0), some (.ref 31), some (.ref 30), some (.int (nI i)), x5, x6] [] st := by
  obtain ⟨t, nk, n, np, nt, hR⟩ := hR
  have hp := pr_budget (l := l) (D := D) (cy := cy) hR (xs (i + 1))
  unfold Pair at hp
  refine n_ald1 eL_law_761 ?_
  refine q_arg (k := 1) (z := 1) (v := 1) hX (by omega) rfl (by decide) eL_law_762 eL_law_763 eL_law_765 eL_law_766 eL_law_767 ?_
  refine q_callVi (ci := 10) (as := [.int (xs (i + 1))]) hp rfl (Nat.le_of_ble_eq_true rfl) (Nat.le_of_ble_eq_true rfl) rfl cv_L_93 eL_law_768 (⟨Nat.le_of_ble_eq_true rfl, Nat.le_of_ble_eq_true rfl⟩) rfl rfl (Nat.le_of_ble_eq_true rfl) hk (fun r u h => ?_)
  refine n_ald2 eL_law_771 ?_
  refine q_arg (k := 1) (z := 1) (v := 1) hX (by omega) rfl (by decide) eL_law_772 eL_law_773 eL_law_775 eL_law_776 eL_law_777 ?_
  refine q_callVi (ci := 11) (as := [.int (xs (i + 1))]) h rfl (Nat.le_of_ble_eq_true rfl) (Nat.le_of_ble_eq_true rfl) rfl cv_L_96 eL_law_778 (⟨Nat.le_of_ble_eq_true rfl, Nat.le_of_ble_eq_true rfl⟩) rfl rfl (Nat.le_of_ble_eq_true rfl) hk (fun r2 u2 h2 => ?_)
  refine n_icmp_eq eL_law_781 (fun _ => kk u2 h2.2) (fun q => absurd h2.1.symm q)
theorem lc_opening {st : St} (hR : RelE st) (hX : scrT s A ad Ls xs) (hi : i + 6 ≤ Ls) (hk : kc ≤ room_1.cells ∧ ks ≤ room_1.slots) (kk : ∀ u, RelE u → GQ p l e room_1 s m #[Value.ref b] below meth c D cy ad A (cL_law, RL, 7, ret) Q kc ks (fun _ => True) 1585 [some (.ref 140), some (.ref 0), some (.ref 31), some (.ref 30), some (.int (nI i)), x5, x6] [] u) : GQ p l e room_1 s m #[Value.ref b] below meth c D cy ad A (cL_law, RL, 7, ret) Q kc ks (fun _ => True) 786 [some (.ref 140), some (.ref 0), some (.ref 31), some (.ref 30), some (.int (nI i)), x5, x6] [] st := by
  obtain ⟨t, nk, n, np, nt, hR⟩ := hR
  have hp := pr_opening (l := l) (D := D) (cy := cy) hR (xs (i + 1)) (xs (i + 2)) (xs (i + 3))
  unfold Pair at hp
  refine n_ald1 eL_law_786 ?_
  refine q_arg (k := 1) (z := 1) (v := 1) hX (by omega) rfl (by decide) eL_law_787 eL_law_788 eL_law_790 eL_law_791 eL_law_792 ?_
  refine q_arg (k := 2) (z := 2) (v := 2) hX (by omega) rfl (by decide) eL_law_793 eL_law_794 eL_law_796 eL_law_797 eL_law_798 ?_
  refine q_arg (k := 3) (z := 3) (v := 3) hX (by omega) rfl (by decide) eL_law_799 eL_law_800 eL_law_802 eL_law_803 eL_law_804 ?_
  refine q_callVi (ci := 10) (as := [.int (xs (i + 1)), .int (xs (i + 2)), .int (xs (i + 3))]) hp rfl (Nat.le_of_ble_eq_true rfl) (Nat.le_of_ble_eq_true rfl) rfl cv_L_97 eL_law_805 (⟨Nat.le_of_ble_eq_true rfl, Nat.le_of_ble_eq_true rfl⟩) rfl rfl (Nat.le_of_ble_eq_true rfl) hk (fun r u h => ?_)
  refine n_ald2 eL_law_808 ?_
  refine q_arg (k := 1) (z := 1) (v := 1) hX (by omega) rfl (by decide) eL_law_809 eL_law_810 eL_law_812 eL_law_813 eL_law_814 ?_
  refine q_arg (k := 2) (z := 2) (v := 2) hX (by omega) rfl (by decide) eL_law_815 eL_law_816 eL_law_818 eL_law_819 eL_law_820 ?_
  refine q_arg (k := 3) (z := 3) (v := 3) hX (by omega) rfl (by decide) eL_law_821 eL_law_822 eL_law_824 eL_law_825 eL_law_826 ?_
  refine q_callVi (ci := 11) (as := [.int (xs (i + 1)), .int (xs (i + 2)), .int (xs (i + 3))]) h rfl (Nat.le_of_ble_eq_true rfl) (Nat.le_of_ble_eq_true rfl) rfl cv_L_100 eL_law_827 (⟨Nat.le_of_ble_eq_true rfl, Nat.le_of_ble_eq_true rfl⟩) rfl rfl (Nat.le_of_ble_eq_true rfl) hk (fun r2 u2 h2 => ?_)
  refine n_icmp_eq eL_law_830 (fun _ => kk u2 h2.2) (fun q => absurd h2.1.symm q)
theorem lc_works {st : St} (hR : RelE st) (hX : scrT s A ad Ls xs) (hi : i + 6 ≤ Ls) (hk : kc ≤ room_1.cells ∧ ks ≤ room_1.slots) (kk : ∀ u, RelE u → GQ p l e room_1 s m #[Value.ref b] below meth c D cy ad A (cL_law, RL, 7, ret) Q kc ks (fun _ => True) 1585 [some (.ref 140), some (.ref 0), some (.ref 31), some (.ref 30), some (.int (nI i)), x5, x6] [] u) : GQ p l e room_1 s m #[Value.ref b] below meth c D cy ad A (cL_law, RL, 7, ret) Q kc ks (fun _ => True) 835 [some (.ref 140), some (.ref 0), some (.ref 31), some (.ref 30), some (.int (nI i)), x5, x6] [] st := by
  obtain ⟨t, nk, n, np, nt, hR⟩ := hR
  have hp := pr_works (l := l) (D := D) (cy := cy) hR (xs (i + 1))
  unfold Pair at hp
  refine n_ald1 eL_law_835 ?_
  refine q_arg (k := 1) (z := 1) (v := 1) hX (by omega) rfl (by decide) eL_law_836 eL_law_837 eL_law_839 eL_law_840 eL_law_841 ?_
  refine q_callVi (ci := 10) (as := [.int (xs (i + 1))]) hp rfl (Nat.le_of_ble_eq_true rfl) (Nat.le_of_ble_eq_true rfl) rfl cv_L_101 eL_law_842 (⟨Nat.le_of_ble_eq_true rfl, Nat.le_of_ble_eq_true rfl⟩) rfl rfl (Nat.le_of_ble_eq_true rfl) hk (fun r u h => ?_)
  refine n_ald2 eL_law_845 ?_
  refine q_arg (k := 1) (z := 1) (v := 1) hX (by omega) rfl (by decide) eL_law_846 eL_law_847 eL_law_849 eL_law_850 eL_law_851 ?_
  refine q_callVi (ci := 11) (as := [.int (xs (i + 1))]) h rfl (Nat.le_of_ble_eq_true rfl) (Nat.le_of_ble_eq_true rfl) rfl cv_L_104 eL_law_852 (⟨Nat.le_of_ble_eq_true rfl, Nat.le_of_ble_eq_true rfl⟩) rfl rfl (Nat.le_of_ble_eq_true rfl) hk (fun r2 u2 h2 => ?_)
  refine n_icmp_eq eL_law_855 (fun _ => kk u2 h2.2) (fun q => absurd h2.1.symm q)
theorem lc_step {st : St} (hR : RelE st) (hX : scrT s A ad Ls xs) (hi : i + 6 ≤ Ls) (hk : kc ≤ room_1.cells ∧ ks ≤ room_1.slots) (kk : ∀ u, RelE u → GQ p l e room_1 s m #[Value.ref b] below meth c D cy ad A (cL_law, RL, 7, ret) Q kc ks (fun _ => True) 1585 [some (.ref 140), some (.ref 0), some (.ref 31), some (.ref 30), some (.int (nI i)), x5, x6] [] u) : GQ p l e room_1 s m #[Value.ref b] below meth c D cy ad A (cL_law, RL, 7, ret) Q kc ks (fun _ => True) 860 [some (.ref 140), some (.ref 0), some (.ref 31), some (.ref 30), some (.int (nI i)), x5, x6] [] st := by
  obtain ⟨t, nk, n, np, nt, hR⟩ := hR
  have hp := pr_step (l := l) (D := D) (cy := cy) hR (xs (i + 1)) (xs (i + 2)) (xs (i + 3))
  unfold Pair at hp
  refine n_ald1 eL_law_860 ?_
  refine q_arg (k := 1) (z := 1) (v := 1) hX (by omega) rfl (by decide) eL_law_861 eL_law_862 eL_law_864 eL_law_865 eL_law_866 ?_
  refine q_arg (k := 2) (z := 2) (v := 2) hX (by omega) rfl (by decide) eL_law_867 eL_law_868 eL_law_870 eL_law_871 eL_law_872 ?_
  refine q_arg (k := 3) (z := 3) (v := 3) hX (by omega) rfl (by decide) eL_law_873 eL_law_874 eL_law_876 eL_law_877 eL_law_878 ?_
  refine q_callVi (ci := 10) (as := [.int (xs (i + 1)), .int (xs (i + 2)), .int (xs (i + 3))]) hp rfl (Nat.le_of_ble_eq_true rfl) (Nat.le_of_ble_eq_true rfl) rfl cv_L_105 eL_law_879 (⟨Nat.le_of_ble_eq_true rfl, Nat.le_of_ble_eq_true rfl⟩) rfl rfl (Nat.le_of_ble_eq_true rfl) hk (fun r u h => ?_)
  refine n_ald2 eL_law_882 ?_
  refine q_arg (k := 1) (z := 1) (v := 1) hX (by omega) rfl (by decide) eL_law_883 eL_law_884 eL_law_886 eL_law_887 eL_law_888 ?_
  refine q_arg (k := 2) (z := 2) (v := 2) hX (by omega) rfl (by decide) eL_law_889 eL_law_890 eL_law_892 eL_law_893 eL_law_894 ?_
  refine q_arg (k := 3) (z := 3) (v := 3) hX (by omega) rfl (by decide) eL_law_895 eL_law_896 eL_law_898 eL_law_899 eL_law_900 ?_
  refine q_callVi (ci := 11) (as := [.int (xs (i + 1)), .int (xs (i + 2)), .int (xs (i + 3))]) h rfl (Nat.le_of_ble_eq_true rfl) (Nat.le_of_ble_eq_true rfl) rfl cv_L_108 eL_law_901 (⟨Nat.le_of_ble_eq_true rfl, Nat.le_of_ble_eq_true rfl⟩) rfl rfl (Nat.le_of_ble_eq_true rfl) hk (fun r2 u2 h2 => ?_)
  refine n_icmp_eq eL_law_904 (fun _ => kk u2 h2.2) (fun q => absurd h2.1.symm q)
theorem lc_outs {st : St} (hR : RelE st) (hX : scrT s A ad Ls xs) (hi : i + 6 ≤ Ls) (hk : kc ≤ room_1.cells ∧ ks ≤ room_1.slots) (kk : ∀ u, RelE u → GQ p l e room_1 s m #[Value.ref b] below meth c D cy ad A (cL_law, RL, 7, ret) Q kc ks (fun _ => True) 1585 [some (.ref 140), some (.ref 0), some (.ref 31), some (.ref 30), some (.int (nI i)), x5, x6] [] u) : GQ p l e room_1 s m #[Value.ref b] below meth c D cy ad A (cL_law, RL, 7, ret) Q kc ks (fun _ => True) 909 [some (.ref 140), some (.ref 0), some (.ref 31), some (.ref 30), some (.int (nI i)), x5, x6] [] st := by
  obtain ⟨t, nk, n, np, nt, hR⟩ := hR
  have hp := pr_outs (l := l) (D := D) (cy := cy) hR (xs (i + 1)) (xs (i + 2))
  unfold Pair at hp
  refine n_ald1 eL_law_909 ?_
  refine q_arg (k := 1) (z := 1) (v := 1) hX (by omega) rfl (by decide) eL_law_910 eL_law_911 eL_law_913 eL_law_914 eL_law_915 ?_
  refine q_arg (k := 2) (z := 2) (v := 2) hX (by omega) rfl (by decide) eL_law_916 eL_law_917 eL_law_919 eL_law_920 eL_law_921 ?_
  refine q_callVi (ci := 10) (as := [.int (xs (i + 1)), .int (xs (i + 2))]) hp rfl (Nat.le_of_ble_eq_true rfl) (Nat.le_of_ble_eq_true rfl) rfl cv_L_109 eL_law_922 (⟨Nat.le_of_ble_eq_true rfl, Nat.le_of_ble_eq_true rfl⟩) rfl rfl (Nat.le_of_ble_eq_true rfl) hk (fun r u h => ?_)
  refine n_ald2 eL_law_925 ?_
  refine q_arg (k := 1) (z := 1) (v := 1) hX (by omega) rfl (by decide) eL_law_926 eL_law_927 eL_law_929 eL_law_930 eL_law_931 ?_
  refine q_arg (k := 2) (z := 2) (v := 2) hX (by omega) rfl (by decide) eL_law_932 eL_law_933 eL_law_935 eL_law_936 eL_law_937 ?_
  refine q_callVi (ci := 11) (as := [.int (xs (i + 1)), .int (xs (i + 2))]) h rfl (Nat.le_of_ble_eq_true rfl) (Nat.le_of_ble_eq_true rfl) rfl cv_L_112 eL_law_938 (⟨Nat.le_of_ble_eq_true rfl, Nat.le_of_ble_eq_true rfl⟩) rfl rfl (Nat.le_of_ble_eq_true rfl) hk (fun r2 u2 h2 => ?_)
  refine n_icmp_eq eL_law_941 (fun _ => kk u2 h2.2) (fun q => absurd h2.1.symm q)
theorem lc_cost {st : St} (hR : RelE st) (hX : scrT s A ad Ls xs) (hi : i + 6 ≤ Ls) (hk : kc ≤ room_1.cells ∧ ks ≤ room_1.slots) (kk : ∀ u, RelE u → GQ p l e room_1 s m #[Value.ref b] below meth c D cy ad A (cL_law, RL, 7, ret) Q kc ks (fun _ => True) 1585 [some (.ref 140), some (.ref 0), some (.ref 31), some (.ref 30), some (.int (nI i)), x5, x6] [] u) : GQ p l e room_1 s m #[Value.ref b] below meth c D cy ad A (cL_law, RL, 7, ret) Q kc ks (fun _ => True) 946 [some (.ref 140), some (.ref 0), some (.ref 31), some (.ref 30), some (.int (nI i)), x5, x6] [] st := by
  obtain ⟨t, nk, n, np, nt, hR⟩ := hR
  have hp := pr_cost (l := l) (D := D) (cy := cy) hR (xs (i + 1)) (xs (i + 2))
  unfold Pair at hp
  refine n_ald1 eL_law_946 ?_
  refine q_arg (k := 1) (z := 1) (v := 1) hX (by omega) rfl (by decide) eL_law_947 eL_law_948 eL_law_950 eL_law_951 eL_law_952 ?_
  refine q_arg (k := 2) (z := 2) (v := 2) hX (by omega) rfl (by decide) eL_law_953 eL_law_954 eL_law_956 eL_law_957 eL_law_958 ?_
  refine q_callVi (ci := 10) (as := [.int (xs (i + 1)), .int (xs (i + 2))]) hp rfl (Nat.le_of_ble_eq_true rfl) (Nat.le_of_ble_eq_true rfl) rfl cv_L_113 eL_law_959 (⟨Nat.le_of_ble_eq_true rfl, Nat.le_of_ble_eq_true rfl⟩) rfl rfl (Nat.le_of_ble_eq_true rfl) hk (fun r u h => ?_)
  refine n_ald2 eL_law_962 ?_
  refine q_arg (k := 1) (z := 1) (v := 1) hX (by omega) rfl (by decide) eL_law_963 eL_law_964 eL_law_966 eL_law_967 eL_law_968 ?_
  refine q_arg (k := 2) (z := 2) (v := 2) hX (by omega) rfl (by decide) eL_law_969 eL_law_970 eL_law_972 eL_law_973 eL_law_974 ?_
  refine q_callVi (ci := 11) (as := [.int (xs (i + 1)), .int (xs (i + 2))]) h rfl (Nat.le_of_ble_eq_true rfl) (Nat.le_of_ble_eq_true rfl) rfl cv_L_116 eL_law_975 (⟨Nat.le_of_ble_eq_true rfl, Nat.le_of_ble_eq_true rfl⟩) rfl rfl (Nat.le_of_ble_eq_true rfl) hk (fun r2 u2 h2 => ?_)
  refine n_icmp_eq eL_law_978 (fun _ => kk u2 h2.2) (fun q => absurd h2.1.symm q)
theorem lc_holds {st : St} (hR : RelE st) (hX : scrT s A ad Ls xs) (hi : i + 6 ≤ Ls) (hk : kc ≤ room_1.cells ∧ ks ≤ room_1.slots) (kk : ∀ u, RelE u → GQ p l e room_1 s m #[Value.ref b] below meth c D cy ad A (cL_law, RL, 7, ret) Q kc ks (fun _ => True) 1585 [some (.ref 140), some (.ref 0), some (.ref 31), some (.ref 30), some (.int (nI i)), x5, x6] [] u) : GQ p l e room_1 s m #[Value.ref b] below meth c D cy ad A (cL_law, RL, 7, ret) Q kc ks (fun _ => True) 983 [some (.ref 140), some (.ref 0), some (.ref 31), some (.ref 30), some (.int (nI i)), x5, x6] [] st := by
  obtain ⟨t, nk, n, np, nt, hR⟩ := hR
  have hp := pr_holds (l := l) (D := D) (cy := cy) hR (xs (i + 1)) (xs (i + 2)) (xs (i + 3))
  unfold Pair at hp
  refine n_ald1 eL_law_983 ?_
  refine q_arg (k := 1) (z := 1) (v := 1) hX (by omega) rfl (by decide) eL_law_984 eL_law_985 eL_law_987 eL_law_988 eL_law_989 ?_
  refine q_arg (k := 2) (z := 2) (v := 2) hX (by omega) rfl (by decide) eL_law_990 eL_law_991 eL_law_993 eL_law_994 eL_law_995 ?_
  refine q_arg (k := 3) (z := 3) (v := 3) hX (by omega) rfl (by decide) eL_law_996 eL_law_997 eL_law_999 eL_law_1000 eL_law_1001 ?_
  refine q_callVi (ci := 10) (as := [.int (xs (i + 1)), .int (xs (i + 2)), .int (xs (i + 3))]) hp rfl (Nat.le_of_ble_eq_true rfl) (Nat.le_of_ble_eq_true rfl) rfl cv_L_117 eL_law_1002 (⟨Nat.le_of_ble_eq_true rfl, Nat.le_of_ble_eq_true rfl⟩) rfl rfl (Nat.le_of_ble_eq_true rfl) hk (fun r u h => ?_)
  refine n_ald2 eL_law_1005 ?_
  refine q_arg (k := 1) (z := 1) (v := 1) hX (by omega) rfl (by decide) eL_law_1006 eL_law_1007 eL_law_1009 eL_law_1010 eL_law_1011 ?_
  refine q_arg (k := 2) (z := 2) (v := 2) hX (by omega) rfl (by decide) eL_law_1012 eL_law_1013 eL_law_1015 eL_law_1016 eL_law_1017 ?_
  refine q_arg (k := 3) (z := 3) (v := 3) hX (by omega) rfl (by decide) eL_law_1018 eL_law_1019 eL_law_1021 eL_law_1022 eL_law_1023 ?_
  refine q_callVi (ci := 11) (as := [.int (xs (i + 1)), .int (xs (i + 2)), .int (xs (i + 3))]) h rfl (Nat.le_of_ble_eq_true rfl) (Nat.le_of_ble_eq_true rfl) rfl cv_L_120 eL_law_1024 (⟨Nat.le_of_ble_eq_true rfl, Nat.le_of_ble_eq_true rfl⟩) rfl rfl (Nat.le_of_ble_eq_true rfl) hk (fun r2 u2 h2 => ?_)
  refine n_icmp_eq eL_law_1027 (fun _ => kk u2 h2.2) (fun q => absurd h2.1.symm q)
theorem lc_best {st : St} (hR : RelE st) (hX : scrT s A ad Ls xs) (hi : i + 6 ≤ Ls) (hk : kc ≤ room_1.cells ∧ ks ≤ room_1.slots) (kk : ∀ u, RelE u → GQ p l e room_1 s m #[Value.ref b] below meth c D cy ad A (cL_law, RL, 7, ret) Q kc ks (fun _ => True) 1585 [some (.ref 140), some (.ref 0), some (.ref 31), some (.ref 30), some (.int (nI i)), x5, x6] [] u) : GQ p l e room_1 s m #[Value.ref b] below meth c D cy ad A (cL_law, RL, 7, ret) Q kc ks (fun _ => True) 1032 [some (.ref 140), some (.ref 0), some (.ref 31), some (.ref 30), some (.int (nI i)), x5, x6] [] st := by
  obtain ⟨t, nk, n, np, nt, hR⟩ := hR
  have hp := pr_best (l := l) (D := D) (cy := cy) hR (xs (i + 1)) (xs (i + 2))
  unfold Pair at hp
  refine n_ald1 eL_law_1032 ?_
  refine q_arg (k := 1) (z := 1) (v := 1) hX (by omega) rfl (by decide) eL_law_1033 eL_law_1034 eL_law_1036 eL_law_1037 eL_law_1038 ?_
  refine q_arg (k := 2) (z := 2) (v := 2) hX (by omega) rfl (by decide) eL_law_1039 eL_law_1040 eL_law_1042 eL_law_1043 eL_law_1044 ?_
  refine q_callVi (ci := 10) (as := [.int (xs (i + 1)), .int (xs (i + 2))]) hp rfl (Nat.le_of_ble_eq_true rfl) (Nat.le_of_ble_eq_true rfl) rfl cv_L_121 eL_law_1045 (⟨Nat.le_of_ble_eq_true rfl, Nat.le_of_ble_eq_true rfl⟩) rfl rfl (Nat.le_of_ble_eq_true rfl) hk (fun r u h => ?_)
  refine n_ald2 eL_law_1048 ?_
  refine q_arg (k := 1) (z := 1) (v := 1) hX (by omega) rfl (by decide) eL_law_1049 eL_law_1050 eL_law_1052 eL_law_1053 eL_law_1054 ?_
  refine q_arg (k := 2) (z := 2) (v := 2) hX (by omega) rfl (by decide) eL_law_1055 eL_law_1056 eL_law_1058 eL_law_1059 eL_law_1060 ?_
  refine q_callVi (ci := 11) (as := [.int (xs (i + 1)), .int (xs (i + 2))]) h rfl (Nat.le_of_ble_eq_true rfl) (Nat.le_of_ble_eq_true rfl) rfl cv_L_124 eL_law_1061 (⟨Nat.le_of_ble_eq_true rfl, Nat.le_of_ble_eq_true rfl⟩) rfl rfl (Nat.le_of_ble_eq_true rfl) hk (fun r2 u2 h2 => ?_)
  refine n_icmp_eq eL_law_1064 (fun _ => kk u2 h2.2) (fun q => absurd h2.1.symm q)
theorem lc_given {st : St} (hR : RelE st) (hX : scrT s A ad Ls xs) (hi : i + 6 ≤ Ls) (hk : kc ≤ room_1.cells ∧ ks ≤ room_1.slots) (kk : ∀ u, RelE u → GQ p l e room_1 s m #[Value.ref b] below meth c D cy ad A (cL_law, RL, 7, ret) Q kc ks (fun _ => True) 1585 [some (.ref 140), some (.ref 0), some (.ref 31), some (.ref 30), some (.int (nI i)), x5, x6] [] u) : GQ p l e room_1 s m #[Value.ref b] below meth c D cy ad A (cL_law, RL, 7, ret) Q kc ks (fun _ => True) 1069 [some (.ref 140), some (.ref 0), some (.ref 31), some (.ref 30), some (.int (nI i)), x5, x6] [] st := by
  obtain ⟨t, nk, n, np, nt, hR⟩ := hR
  have hp := pr_given (l := l) (D := D) (cy := cy) hR (xs (i + 1)) (xs (i + 2))
  unfold Pair at hp
  refine n_ald1 eL_law_1069 ?_
  refine q_arg (k := 1) (z := 1) (v := 1) hX (by omega) rfl (by decide) eL_law_1070 eL_law_1071 eL_law_1073 eL_law_1074 eL_law_1075 ?_
  refine q_arg (k := 2) (z := 2) (v := 2) hX (by omega) rfl (by decide) eL_law_1076 eL_law_1077 eL_law_1079 eL_law_1080 eL_law_1081 ?_
  refine q_callVi (ci := 10) (as := [.int (xs (i + 1)), .int (xs (i + 2))]) hp rfl (Nat.le_of_ble_eq_true rfl) (Nat.le_of_ble_eq_true rfl) rfl cv_L_125 eL_law_1082 (⟨Nat.le_of_ble_eq_true rfl, Nat.le_of_ble_eq_true rfl⟩) rfl rfl (Nat.le_of_ble_eq_true rfl) hk (fun r u h => ?_)
  refine n_ald2 eL_law_1085 ?_
  refine q_arg (k := 1) (z := 1) (v := 1) hX (by omega) rfl (by decide) eL_law_1086 eL_law_1087 eL_law_1089 eL_law_1090 eL_law_1091 ?_
  refine q_arg (k := 2) (z := 2) (v := 2) hX (by omega) rfl (by decide) eL_law_1092 eL_law_1093 eL_law_1095 eL_law_1096 eL_law_1097 ?_
  refine q_callVi (ci := 11) (as := [.int (xs (i + 1)), .int (xs (i + 2))]) h rfl (Nat.le_of_ble_eq_true rfl) (Nat.le_of_ble_eq_true rfl) rfl cv_L_129 eL_law_1098 (⟨Nat.le_of_ble_eq_true rfl, Nat.le_of_ble_eq_true rfl⟩) rfl rfl (Nat.le_of_ble_eq_true rfl) hk (fun r2 u2 h2 => ?_)
  refine n_icmp_eq eL_law_1101 (fun _ => kk u2 h2.2) (fun q => absurd h2.1.symm q)
theorem lc_run {st : St} (hR : RelE st) (hX : scrT s A ad Ls xs) (hi : i + 6 ≤ Ls) (hk : kc ≤ room_1.cells ∧ ks ≤ room_1.slots) (kk : ∀ u, RelE u → GQ p l e room_1 s m #[Value.ref b] below meth c D cy ad A (cL_law, RL, 7, ret) Q kc ks (fun _ => True) 1585 [some (.ref 140), some (.ref 0), some (.ref 31), some (.ref 30), some (.int (nI i)), x5, x6] [] u) : GQ p l e room_1 s m #[Value.ref b] below meth c D cy ad A (cL_law, RL, 7, ret) Q kc ks (fun _ => True) 1106 [some (.ref 140), some (.ref 0), some (.ref 31), some (.ref 30), some (.int (nI i)), x5, x6] [] st := by
  obtain ⟨t, nk, n, np, nt, hR⟩ := hR
  have hp := pr_run (l := l) (D := D) (cy := cy) hR (xs (i + 1)) (xs (i + 2)) (xs (i + 3))
  unfold Pair at hp
  refine n_ald1 eL_law_1106 ?_
  refine q_arg (k := 1) (z := 1) (v := 1) hX (by omega) rfl (by decide) eL_law_1107 eL_law_1108 eL_law_1110 eL_law_1111 eL_law_1112 ?_
  refine q_arg (k := 2) (z := 2) (v := 2) hX (by omega) rfl (by decide) eL_law_1113 eL_law_1114 eL_law_1116 eL_law_1117 eL_law_1118 ?_
  refine q_arg (k := 3) (z := 3) (v := 3) hX (by omega) rfl (by decide) eL_law_1119 eL_law_1120 eL_law_1122 eL_law_1123 eL_law_1124 ?_
  refine q_callVi (ci := 10) (as := [.int (xs (i + 1)), .int (xs (i + 2)), .int (xs (i + 3))]) hp rfl (Nat.le_of_ble_eq_true rfl) (Nat.le_of_ble_eq_true rfl) rfl cv_L_130 eL_law_1125 (⟨Nat.le_of_ble_eq_true rfl, Nat.le_of_ble_eq_true rfl⟩) rfl rfl (Nat.le_of_ble_eq_true rfl) hk (fun r u h => ?_)
  refine n_ald2 eL_law_1128 ?_
  refine q_arg (k := 1) (z := 1) (v := 1) hX (by omega) rfl (by decide) eL_law_1129 eL_law_1130 eL_law_1132 eL_law_1133 eL_law_1134 ?_
  refine q_arg (k := 2) (z := 2) (v := 2) hX (by omega) rfl (by decide) eL_law_1135 eL_law_1136 eL_law_1138 eL_law_1139 eL_law_1140 ?_
  refine q_arg (k := 3) (z := 3) (v := 3) hX (by omega) rfl (by decide) eL_law_1141 eL_law_1142 eL_law_1144 eL_law_1145 eL_law_1146 ?_
  refine q_callVi (ci := 11) (as := [.int (xs (i + 1)), .int (xs (i + 2)), .int (xs (i + 3))]) h rfl (Nat.le_of_ble_eq_true rfl) (Nat.le_of_ble_eq_true rfl) rfl cv_L_133 eL_law_1147 (⟨Nat.le_of_ble_eq_true rfl, Nat.le_of_ble_eq_true rfl⟩) rfl rfl (Nat.le_of_ble_eq_true rfl) hk (fun r2 u2 h2 => ?_)
  refine n_icmp_eq eL_law_1150 (fun _ => kk u2 h2.2) (fun q => absurd h2.1.symm q)
theorem lc_openly {st : St} (hR : RelE st) (hX : scrT s A ad Ls xs) (hi : i + 6 ≤ Ls) (hk : kc ≤ room_1.cells ∧ ks ≤ room_1.slots) (kk : ∀ u, RelE u → GQ p l e room_1 s m #[Value.ref b] below meth c D cy ad A (cL_law, RL, 7, ret) Q kc ks (fun _ => True) 1585 [some (.ref 140), some (.ref 0), some (.ref 31), some (.ref 30), some (.int (nI i)), x5, x6] [] u) : GQ p l e room_1 s m #[Value.ref b] below meth c D cy ad A (cL_law, RL, 7, ret) Q kc ks (fun _ => True) 1155 [some (.ref 140), some (.ref 0), some (.ref 31), some (.ref 30), some (.int (nI i)), x5, x6] [] st := by
  obtain ⟨t, nk, n, np, nt, hR⟩ := hR
  have hp := pr_openly (l := l) (D := D) (cy := cy) hR (xs (i + 1)) (xs (i + 2)) (xs (i + 3))
  unfold Pair at hp
  refine n_ald1 eL_law_1155 ?_
  refine q_arg (k := 1) (z := 1) (v := 1) hX (by omega) rfl (by decide) eL_law_1156 eL_law_1157 eL_law_1159 eL_law_1160 eL_law_1161 ?_
  refine q_arg (k := 2) (z := 2) (v := 2) hX (by omega) rfl (by decide) eL_law_1162 eL_law_1163 eL_law_1165 eL_law_1166 eL_law_1167 ?_
  refine q_arg (k := 3) (z := 3) (v := 3) hX (by omega) rfl (by decide) eL_law_1168 eL_law_1169 eL_law_1171 eL_law_1172 eL_law_1173 ?_
  refine q_callVi (ci := 10) (as := [.int (xs (i + 1)), .int (xs (i + 2)), .int (xs (i + 3))]) hp rfl (Nat.le_of_ble_eq_true rfl) (Nat.le_of_ble_eq_true rfl) rfl cv_L_134 eL_law_1174 (⟨Nat.le_of_ble_eq_true rfl, Nat.le_of_ble_eq_true rfl⟩) rfl rfl (Nat.le_of_ble_eq_true rfl) hk (fun r u h => ?_)
  refine n_ald2 eL_law_1177 ?_
  refine q_arg (k := 1) (z := 1) (v := 1) hX (by omega) rfl (by decide) eL_law_1178 eL_law_1179 eL_law_1181 eL_law_1182 eL_law_1183 ?_
  refine q_arg (k := 2) (z := 2) (v := 2) hX (by omega) rfl (by decide) eL_law_1184 eL_law_1185 eL_law_1187 eL_law_1188 eL_law_1189 ?_
  refine q_arg (k := 3) (z := 3) (v := 3) hX (by omega) rfl (by decide) eL_law_1190 eL_law_1191 eL_law_1193 eL_law_1194 eL_law_1195 ?_
  refine q_callVi (ci := 11) (as := [.int (xs (i + 1)), .int (xs (i + 2)), .int (xs (i + 3))]) h rfl (Nat.le_of_ble_eq_true rfl) (Nat.le_of_ble_eq_true rfl) rfl cv_L_137 eL_law_1196 (⟨Nat.le_of_ble_eq_true rfl, Nat.le_of_ble_eq_true rfl⟩) rfl rfl (Nat.le_of_ble_eq_true rfl) hk (fun r2 u2 h2 => ?_)
  refine n_icmp_eq eL_law_1199 (fun _ => kk u2 h2.2) (fun q => absurd h2.1.symm q)
theorem lc_differ {st : St} (hR : RelE st) (hX : scrT s A ad Ls xs) (hi : i + 6 ≤ Ls) (hk : kc ≤ room_1.cells ∧ ks ≤ room_1.slots) (kk : ∀ u, RelE u → GQ p l e room_1 s m #[Value.ref b] below meth c D cy ad A (cL_law, RL, 7, ret) Q kc ks (fun _ => True) 1585 [some (.ref 140), some (.ref 0), some (.ref 31), some (.ref 30), some (.int (nI i)), x5, x6] [] u) : GQ p l e room_1 s m #[Value.ref b] below meth c D cy ad A (cL_law, RL, 7, ret) Q kc ks (fun _ => True) 1204 [some (.ref 140), some (.ref 0), some (.ref 31), some (.ref 30), some (.int (nI i)), x5, x6] [] st := by
  obtain ⟨t, nk, n, np, nt, hR⟩ := hR
  have hp := pr_differ (l := l) (D := D) (cy := cy) hR (xs (i + 1)) (xs (i + 2))
  unfold Pair at hp
  refine n_ald1 eL_law_1204 ?_
  refine q_arg (k := 1) (z := 1) (v := 1) hX (by omega) rfl (by decide) eL_law_1205 eL_law_1206 eL_law_1208 eL_law_1209 eL_law_1210 ?_
  refine q_arg (k := 2) (z := 2) (v := 2) hX (by omega) rfl (by decide) eL_law_1211 eL_law_1212 eL_law_1214 eL_law_1215 eL_law_1216 ?_
  refine q_callVi (ci := 10) (as := [.int (xs (i + 1)), .int (xs (i + 2))]) hp rfl (Nat.le_of_ble_eq_true rfl) (Nat.le_of_ble_eq_true rfl) rfl cv_L_138 eL_law_1217 (⟨Nat.le_of_ble_eq_true rfl, Nat.le_of_ble_eq_true rfl⟩) rfl rfl (Nat.le_of_ble_eq_true rfl) hk (fun r u h => ?_)
  refine n_ald2 eL_law_1220 ?_
  refine q_arg (k := 1) (z := 1) (v := 1) hX (by omega) rfl (by decide) eL_law_1221 eL_law_1222 eL_law_1224 eL_law_1225 eL_law_1226 ?_
  refine q_arg (k := 2) (z := 2) (v := 2) hX (by omega) rfl (by decide) eL_law_1227 eL_law_1228 eL_law_1230 eL_law_1231 eL_law_1232 ?_
  refine q_callVi (ci := 11) (as := [.int (xs (i + 1)), .int (xs (i + 2))]) h rfl (Nat.le_of_ble_eq_true rfl) (Nat.le_of_ble_eq_true rfl) rfl cv_L_141 eL_law_1233 (⟨Nat.le_of_ble_eq_true rfl, Nat.le_of_ble_eq_true rfl⟩) rfl rfl (Nat.le_of_ble_eq_true rfl) hk (fun r2 u2 h2 => ?_)
  refine n_icmp_eq eL_law_1236 (fun _ => kk u2 h2.2) (fun q => absurd h2.1.symm q)
theorem lc_checks {st : St} (hR : RelE st) (hX : scrT s A ad Ls xs) (hi : i + 6 ≤ Ls) (hk : kc ≤ room_1.cells ∧ ks ≤ room_1.slots) (kk : ∀ u, RelE u → GQ p l e room_1 s m #[Value.ref b] below meth c D cy ad A (cL_law, RL, 7, ret) Q kc ks (fun _ => True) 1585 [some (.ref 140), some (.ref 0), some (.ref 31), some (.ref 30), some (.int (nI i)), x5, x6] [] u) : GQ p l e room_1 s m #[Value.ref b] below meth c D cy ad A (cL_law, RL, 7, ret) Q kc ks (fun _ => True) 1241 [some (.ref 140), some (.ref 0), some (.ref 31), some (.ref 30), some (.int (nI i)), x5, x6] [] st := by
  obtain ⟨t, nk, n, np, nt, hR⟩ := hR
  have hp := pr_checks (l := l) (D := D) (cy := cy) hR (xs (i + 1)) (xs (i + 2)) (xs (i + 3)) (xs (i + 4))
  unfold Pair at hp
  refine n_ald1 eL_law_1241 ?_
  refine q_arg (k := 1) (z := 1) (v := 1) hX (by omega) rfl (by decide) eL_law_1242 eL_law_1243 eL_law_1245 eL_law_1246 eL_law_1247 ?_
  refine q_arg (k := 2) (z := 2) (v := 2) hX (by omega) rfl (by decide) eL_law_1248 eL_law_1249 eL_law_1251 eL_law_1252 eL_law_1253 ?_
  refine q_arg (k := 3) (z := 3) (v := 3) hX (by omega) rfl (by decide) eL_law_1254 eL_law_1255 eL_law_1257 eL_law_1258 eL_law_1259 ?_
  refine q_arg (k := 4) (z := 4) (v := 4) hX (by omega) rfl (by decide) eL_law_1260 eL_law_1261 eL_law_1263 eL_law_1264 eL_law_1265 ?_
  refine q_callVi (ci := 10) (as := [.int (xs (i + 1)), .int (xs (i + 2)), .int (xs (i + 3)), .int (xs (i + 4))]) hp rfl (Nat.le_of_ble_eq_true rfl) (Nat.le_of_ble_eq_true rfl) rfl cv_L_142 eL_law_1266 (⟨Nat.le_of_ble_eq_true rfl, Nat.le_of_ble_eq_true rfl⟩) rfl rfl (Nat.le_of_ble_eq_true rfl) hk (fun r u h => ?_)
  refine n_ald2 eL_law_1269 ?_
  refine q_arg (k := 1) (z := 1) (v := 1) hX (by omega) rfl (by decide) eL_law_1270 eL_law_1271 eL_law_1273 eL_law_1274 eL_law_1275 ?_
  refine q_arg (k := 2) (z := 2) (v := 2) hX (by omega) rfl (by decide) eL_law_1276 eL_law_1277 eL_law_1279 eL_law_1280 eL_law_1281 ?_
  refine q_arg (k := 3) (z := 3) (v := 3) hX (by omega) rfl (by decide) eL_law_1282 eL_law_1283 eL_law_1285 eL_law_1286 eL_law_1287 ?_
  refine q_arg (k := 4) (z := 4) (v := 4) hX (by omega) rfl (by decide) eL_law_1288 eL_law_1289 eL_law_1291 eL_law_1292 eL_law_1293 ?_
  refine q_callVi (ci := 11) (as := [.int (xs (i + 1)), .int (xs (i + 2)), .int (xs (i + 3)), .int (xs (i + 4))]) h rfl (Nat.le_of_ble_eq_true rfl) (Nat.le_of_ble_eq_true rfl) rfl cv_L_146 eL_law_1294 (⟨Nat.le_of_ble_eq_true rfl, Nat.le_of_ble_eq_true rfl⟩) rfl rfl (Nat.le_of_ble_eq_true rfl) hk (fun r2 u2 h2 => ?_)
  refine n_icmp_eq eL_law_1297 (fun _ => kk u2 h2.2) (fun q => absurd h2.1.symm q)
theorem lc_parts {st : St} (hR : RelE st) (hX : scrT s A ad Ls xs) (hi : i + 6 ≤ Ls) (hk : kc ≤ room_1.cells ∧ ks ≤ room_1.slots) (kk : ∀ u, RelE u → GQ p l e room_1 s m #[Value.ref b] below meth c D cy ad A (cL_law, RL, 7, ret) Q kc ks (fun _ => True) 1585 [some (.ref 140), some (.ref 0), some (.ref 31), some (.ref 30), some (.int (nI i)), x5, x6] [] u) : GQ p l e room_1 s m #[Value.ref b] below meth c D cy ad A (cL_law, RL, 7, ret) Q kc ks (fun _ => True) 1302 [some (.ref 140), some (.ref 0), some (.ref 31), some (.ref 30), some (.int (nI i)), x5, x6] [] st := by
  obtain ⟨t, nk, n, np, nt, hR⟩ := hR
  have hp := pr_parts (l := l) (D := D) (cy := cy) hR (xs (i + 1)) (xs (i + 2)) (xs (i + 3)) (xs (i + 4))
  unfold Pair at hp
  refine n_ald1 eL_law_1302 ?_
  refine q_arg (k := 1) (z := 1) (v := 1) hX (by omega) rfl (by decide) eL_law_1303 eL_law_1304 eL_law_1306 eL_law_1307 eL_law_1308 ?_
  refine q_arg (k := 2) (z := 2) (v := 2) hX (by omega) rfl (by decide) eL_law_1309 eL_law_1310 eL_law_1312 eL_law_1313 eL_law_1314 ?_
  refine q_arg (k := 3) (z := 3) (v := 3) hX (by omega) rfl (by decide) eL_law_1315 eL_law_1316 eL_law_1318 eL_law_1319 eL_law_1320 ?_
  refine q_arg (k := 4) (z := 4) (v := 4) hX (by omega) rfl (by decide) eL_law_1321 eL_law_1322 eL_law_1324 eL_law_1325 eL_law_1326 ?_
  refine q_callVi (ci := 10) (as := [.int (xs (i + 1)), .int (xs (i + 2)), .int (xs (i + 3)), .int (xs (i + 4))]) hp rfl (Nat.le_of_ble_eq_true rfl) (Nat.le_of_ble_eq_true rfl) rfl cv_L_147 eL_law_1327 (⟨Nat.le_of_ble_eq_true rfl, Nat.le_of_ble_eq_true rfl⟩) rfl rfl (Nat.le_of_ble_eq_true rfl) hk (fun r u h => ?_)
  refine n_ald2 eL_law_1330 ?_
  refine q_arg (k := 1) (z := 1) (v := 1) hX (by omega) rfl (by decide) eL_law_1331 eL_law_1332 eL_law_1334 eL_law_1335 eL_law_1336 ?_
  refine q_arg (k := 2) (z := 2) (v := 2) hX (by omega) rfl (by decide) eL_law_1337 eL_law_1338 eL_law_1340 eL_law_1341 eL_law_1342 ?_
  refine q_arg (k := 3) (z := 3) (v := 3) hX (by omega) rfl (by decide) eL_law_1343 eL_law_1344 eL_law_1346 eL_law_1347 eL_law_1348 ?_
  refine q_arg (k := 4) (z := 4) (v := 4) hX (by omega) rfl (by decide) eL_law_1349 eL_law_1350 eL_law_1352 eL_law_1353 eL_law_1354 ?_
  refine q_callVi (ci := 11) (as := [.int (xs (i + 1)), .int (xs (i + 2)), .int (xs (i + 3)), .int (xs (i + 4))]) h rfl (Nat.le_of_ble_eq_true rfl) (Nat.le_of_ble_eq_true rfl) rfl cv_L_151 eL_law_1355 (⟨Nat.le_of_ble_eq_true rfl, Nat.le_of_ble_eq_true rfl⟩) rfl rfl (Nat.le_of_ble_eq_true rfl) hk (fun r2 u2 h2 => ?_)
  refine n_icmp_eq eL_law_1358 (fun _ => kk u2 h2.2) (fun q => absurd h2.1.symm q)
theorem lc_part {st : St} (hR : RelE st) (hX : scrT s A ad Ls xs) (hi : i + 6 ≤ Ls) (hk : kc ≤ room_1.cells ∧ ks ≤ room_1.slots) (kk : ∀ u, RelE u → GQ p l e room_1 s m #[Value.ref b] below meth c D cy ad A (cL_law, RL, 7, ret) Q kc ks (fun _ => True) 1585 [some (.ref 140), some (.ref 0), some (.ref 31), some (.ref 30), some (.int (nI i)), x5, x6] [] u) : GQ p l e room_1 s m #[Value.ref b] below meth c D cy ad A (cL_law, RL, 7, ret) Q kc ks (fun _ => True) 1363 [some (.ref 140), some (.ref 0), some (.ref 31), some (.ref 30), some (.int (nI i)), x5, x6] [] st := by
  obtain ⟨t, nk, n, np, nt, hR⟩ := hR
  have hp := pr_part (l := l) (D := D) (cy := cy) hR (xs (i + 1)) (xs (i + 2))
  unfold Pair at hp
  refine n_ald1 eL_law_1363 ?_
  refine q_arg (k := 1) (z := 1) (v := 1) hX (by omega) rfl (by decide) eL_law_1364 eL_law_1365 eL_law_1367 eL_law_1368 eL_law_1369 ?_
  refine q_arg (k := 2) (z := 2) (v := 2) hX (by omega) rfl (by decide) eL_law_1370 eL_law_1371 eL_law_1373 eL_law_1374 eL_law_1375 ?_
  refine q_callVi (ci := 10) (as := [.int (xs (i + 1)), .int (xs (i + 2))]) hp rfl (Nat.le_of_ble_eq_true rfl) (Nat.le_of_ble_eq_true rfl) rfl cv_L_152 eL_law_1376 (⟨Nat.le_of_ble_eq_true rfl, Nat.le_of_ble_eq_true rfl⟩) rfl rfl (Nat.le_of_ble_eq_true rfl) hk (fun r u h => ?_)
  refine n_ald2 eL_law_1379 ?_
  refine q_arg (k := 1) (z := 1) (v := 1) hX (by omega) rfl (by decide) eL_law_1380 eL_law_1381 eL_law_1383 eL_law_1384 eL_law_1385 ?_
  refine q_arg (k := 2) (z := 2) (v := 2) hX (by omega) rfl (by decide) eL_law_1386 eL_law_1387 eL_law_1389 eL_law_1390 eL_law_1391 ?_
  refine q_callVi (ci := 11) (as := [.int (xs (i + 1)), .int (xs (i + 2))]) h rfl (Nat.le_of_ble_eq_true rfl) (Nat.le_of_ble_eq_true rfl) rfl cv_L_155 eL_law_1392 (⟨Nat.le_of_ble_eq_true rfl, Nat.le_of_ble_eq_true rfl⟩) rfl rfl (Nat.le_of_ble_eq_true rfl) hk (fun r2 u2 h2 => ?_)
  refine n_icmp_eq eL_law_1395 (fun _ => kk u2 h2.2) (fun q => absurd h2.1.symm q)
theorem lc_spoil {st : St} (hR : RelE st) (hX : scrT s A ad Ls xs) (hi : i + 6 ≤ Ls) (hk : kc ≤ room_1.cells ∧ ks ≤ room_1.slots) (kk : ∀ u, RelE u → GQ p l e room_1 s m #[Value.ref b] below meth c D cy ad A (cL_law, RL, 7, ret) Q kc ks (fun _ => True) 1585 [some (.ref 140), some (.ref 0), some (.ref 31), some (.ref 30), some (.int (nI i)), x5, x6] [] u) : GQ p l e room_1 s m #[Value.ref b] below meth c D cy ad A (cL_law, RL, 7, ret) Q kc ks (fun _ => True) 1400 [some (.ref 140), some (.ref 0), some (.ref 31), some (.ref 30), some (.int (nI i)), x5, x6] [] st := by
  obtain ⟨t, nk, n, np, nt, hR⟩ := hR
  have hp := pr_spoil (l := l) (D := D) (cy := cy) hR (xs (i + 1)) (xs (i + 2)) (xs (i + 3))
  unfold Pair at hp
  refine n_ald1 eL_law_1400 ?_
  refine q_arg (k := 1) (z := 1) (v := 1) hX (by omega) rfl (by decide) eL_law_1401 eL_law_1402 eL_law_1404 eL_law_1405 eL_law_1406 ?_
  refine q_arg (k := 2) (z := 2) (v := 2) hX (by omega) rfl (by decide) eL_law_1407 eL_law_1408 eL_law_1410 eL_law_1411 eL_law_1412 ?_
  refine q_arg (k := 3) (z := 3) (v := 3) hX (by omega) rfl (by decide) eL_law_1413 eL_law_1414 eL_law_1416 eL_law_1417 eL_law_1418 ?_
  refine q_callVi (ci := 10) (as := [.int (xs (i + 1)), .int (xs (i + 2)), .int (xs (i + 3))]) hp rfl (Nat.le_of_ble_eq_true rfl) (Nat.le_of_ble_eq_true rfl) rfl cv_L_156 eL_law_1419 (⟨Nat.le_of_ble_eq_true rfl, Nat.le_of_ble_eq_true rfl⟩) rfl rfl (Nat.le_of_ble_eq_true rfl) hk (fun r u h => ?_)
  refine n_ald2 eL_law_1422 ?_
  refine q_arg (k := 1) (z := 1) (v := 1) hX (by omega) rfl (by decide) eL_law_1423 eL_law_1424 eL_law_1426 eL_law_1427 eL_law_1428 ?_
  refine q_arg (k := 2) (z := 2) (v := 2) hX (by omega) rfl (by decide) eL_law_1429 eL_law_1430 eL_law_1432 eL_law_1433 eL_law_1434 ?_
  refine q_arg (k := 3) (z := 3) (v := 3) hX (by omega) rfl (by decide) eL_law_1435 eL_law_1436 eL_law_1438 eL_law_1439 eL_law_1440 ?_
  refine q_callVi (ci := 11) (as := [.int (xs (i + 1)), .int (xs (i + 2)), .int (xs (i + 3))]) h rfl (Nat.le_of_ble_eq_true rfl) (Nat.le_of_ble_eq_true rfl) rfl cv_L_160 eL_law_1441 (⟨Nat.le_of_ble_eq_true rfl, Nat.le_of_ble_eq_true rfl⟩) rfl rfl (Nat.le_of_ble_eq_true rfl) hk (fun r2 u2 h2 => ?_)
  refine n_icmp_eq eL_law_1444 (fun _ => kk u2 h2.2) (fun q => absurd h2.1.symm q)
theorem lc_joined {st : St} (hR : RelE st) (hX : scrT s A ad Ls xs) (hi : i + 6 ≤ Ls) (hk : kc ≤ room_1.cells ∧ ks ≤ room_1.slots) (kk : ∀ u, RelE u → GQ p l e room_1 s m #[Value.ref b] below meth c D cy ad A (cL_law, RL, 7, ret) Q kc ks (fun _ => True) 1585 [some (.ref 140), some (.ref 0), some (.ref 31), some (.ref 30), some (.int (nI i)), x5, x6] [] u) : GQ p l e room_1 s m #[Value.ref b] below meth c D cy ad A (cL_law, RL, 7, ret) Q kc ks (fun _ => True) 1449 [some (.ref 140), some (.ref 0), some (.ref 31), some (.ref 30), some (.int (nI i)), x5, x6] [] st := by
  obtain ⟨t, nk, n, np, nt, hR⟩ := hR
  have hp := pr_joined (l := l) (D := D) (cy := cy) hR (xs (i + 1)) (xs (i + 2))
  unfold Pair at hp
  refine n_ald1 eL_law_1449 ?_
  refine q_arg (k := 1) (z := 1) (v := 1) hX (by omega) rfl (by decide) eL_law_1450 eL_law_1451 eL_law_1453 eL_law_1454 eL_law_1455 ?_
  refine q_arg (k := 2) (z := 2) (v := 2) hX (by omega) rfl (by decide) eL_law_1456 eL_law_1457 eL_law_1459 eL_law_1460 eL_law_1461 ?_
  refine q_callVi (ci := 10) (as := [.int (xs (i + 1)), .int (xs (i + 2))]) hp rfl (Nat.le_of_ble_eq_true rfl) (Nat.le_of_ble_eq_true rfl) rfl cv_L_161 eL_law_1462 (⟨Nat.le_of_ble_eq_true rfl, Nat.le_of_ble_eq_true rfl⟩) rfl rfl (Nat.le_of_ble_eq_true rfl) hk (fun r u h => ?_)
  refine n_ald2 eL_law_1465 ?_
  refine q_arg (k := 1) (z := 1) (v := 1) hX (by omega) rfl (by decide) eL_law_1466 eL_law_1467 eL_law_1469 eL_law_1470 eL_law_1471 ?_
  refine q_arg (k := 2) (z := 2) (v := 2) hX (by omega) rfl (by decide) eL_law_1472 eL_law_1473 eL_law_1475 eL_law_1476 eL_law_1477 ?_
  refine q_callVi (ci := 11) (as := [.int (xs (i + 1)), .int (xs (i + 2))]) h rfl (Nat.le_of_ble_eq_true rfl) (Nat.le_of_ble_eq_true rfl) rfl cv_L_164 eL_law_1478 (⟨Nat.le_of_ble_eq_true rfl, Nat.le_of_ble_eq_true rfl⟩) rfl rfl (Nat.le_of_ble_eq_true rfl) hk (fun r2 u2 h2 => ?_)
  refine n_icmp_eq eL_law_1481 (fun _ => kk u2 h2.2) (fun q => absurd h2.1.symm q)
theorem lc_who {st : St} (hR : RelE st) (hX : scrT s A ad Ls xs) (hi : i + 6 ≤ Ls) (hk : kc ≤ room_1.cells ∧ ks ≤ room_1.slots) (kk : ∀ u, RelE u → GQ p l e room_1 s m #[Value.ref b] below meth c D cy ad A (cL_law, RL, 7, ret) Q kc ks (fun _ => True) 1585 [some (.ref 140), some (.ref 0), some (.ref 31), some (.ref 30), some (.int (nI i)), x5, x6] [] u) : GQ p l e room_1 s m #[Value.ref b] below meth c D cy ad A (cL_law, RL, 7, ret) Q kc ks (fun _ => True) 1486 [some (.ref 140), some (.ref 0), some (.ref 31), some (.ref 30), some (.int (nI i)), x5, x6] [] st := by
  obtain ⟨t, nk, n, np, nt, hR⟩ := hR
  have hp := pr_who (l := l) (D := D) (cy := cy) hR (xs (i + 1))
  unfold Pair at hp
  refine n_ald1 eL_law_1486 ?_
  refine q_arg (k := 1) (z := 1) (v := 1) hX (by omega) rfl (by decide) eL_law_1487 eL_law_1488 eL_law_1490 eL_law_1491 eL_law_1492 ?_
  refine q_callVi (ci := 10) (as := [.int (xs (i + 1))]) hp rfl (Nat.le_of_ble_eq_true rfl) (Nat.le_of_ble_eq_true rfl) rfl cv_L_165 eL_law_1493 (⟨Nat.le_of_ble_eq_true rfl, Nat.le_of_ble_eq_true rfl⟩) rfl rfl (Nat.le_of_ble_eq_true rfl) hk (fun r u h => ?_)
  refine n_ald2 eL_law_1496 ?_
  refine q_arg (k := 1) (z := 1) (v := 1) hX (by omega) rfl (by decide) eL_law_1497 eL_law_1498 eL_law_1500 eL_law_1501 eL_law_1502 ?_
  refine q_callVi (ci := 11) (as := [.int (xs (i + 1))]) h rfl (Nat.le_of_ble_eq_true rfl) (Nat.le_of_ble_eq_true rfl) rfl cv_L_168 eL_law_1503 (⟨Nat.le_of_ble_eq_true rfl, Nat.le_of_ble_eq_true rfl⟩) rfl rfl (Nat.le_of_ble_eq_true rfl) hk (fun r2 u2 h2 => ?_)
  refine n_icmp_eq eL_law_1506 (fun _ => kk u2 h2.2) (fun q => absurd h2.1.symm q)
theorem lc_even {st : St} (hR : RelE st) (hX : scrT s A ad Ls xs) (hi : i + 6 ≤ Ls) (hk : kc ≤ room_1.cells ∧ ks ≤ room_1.slots) (kk : ∀ u, RelE u → GQ p l e room_1 s m #[Value.ref b] below meth c D cy ad A (cL_law, RL, 7, ret) Q kc ks (fun _ => True) 1585 [some (.ref 140), some (.ref 0), some (.ref 31), some (.ref 30), some (.int (nI i)), x5, x6] [] u) : GQ p l e room_1 s m #[Value.ref b] below meth c D cy ad A (cL_law, RL, 7, ret) Q kc ks (fun _ => True) 1511 [some (.ref 140), some (.ref 0), some (.ref 31), some (.ref 30), some (.int (nI i)), x5, x6] [] st := by
  obtain ⟨t, nk, n, np, nt, hR⟩ := hR
  have hp := pr_even (l := l) (D := D) (cy := cy) hR (xs (i + 1)) (xs (i + 2)) (xs (i + 3))
  unfold Pair at hp
  refine n_ald1 eL_law_1511 ?_
  refine q_arg (k := 1) (z := 1) (v := 1) hX (by omega) rfl (by decide) eL_law_1512 eL_law_1513 eL_law_1515 eL_law_1516 eL_law_1517 ?_
  refine q_arg (k := 2) (z := 2) (v := 2) hX (by omega) rfl (by decide) eL_law_1518 eL_law_1519 eL_law_1521 eL_law_1522 eL_law_1523 ?_
  refine q_arg (k := 3) (z := 3) (v := 3) hX (by omega) rfl (by decide) eL_law_1524 eL_law_1525 eL_law_1527 eL_law_1528 eL_law_1529 ?_
  refine q_callVi (ci := 10) (as := [.int (xs (i + 1)), .int (xs (i + 2)), .int (xs (i + 3))]) hp rfl (Nat.le_of_ble_eq_true rfl) (Nat.le_of_ble_eq_true rfl) rfl cv_L_169 eL_law_1530 (⟨Nat.le_of_ble_eq_true rfl, Nat.le_of_ble_eq_true rfl⟩) rfl rfl (Nat.le_of_ble_eq_true rfl) hk (fun r u h => ?_)
  refine n_ald2 eL_law_1533 ?_
  refine q_arg (k := 1) (z := 1) (v := 1) hX (by omega) rfl (by decide) eL_law_1534 eL_law_1535 eL_law_1537 eL_law_1538 eL_law_1539 ?_
  refine q_arg (k := 2) (z := 2) (v := 2) hX (by omega) rfl (by decide) eL_law_1540 eL_law_1541 eL_law_1543 eL_law_1544 eL_law_1545 ?_
  refine q_arg (k := 3) (z := 3) (v := 3) hX (by omega) rfl (by decide) eL_law_1546 eL_law_1547 eL_law_1549 eL_law_1550 eL_law_1551 ?_
  refine q_callVi (ci := 11) (as := [.int (xs (i + 1)), .int (xs (i + 2)), .int (xs (i + 3))]) h rfl (Nat.le_of_ble_eq_true rfl) (Nat.le_of_ble_eq_true rfl) rfl cv_L_172 eL_law_1552 (⟨Nat.le_of_ble_eq_true rfl, Nat.le_of_ble_eq_true rfl⟩) rfl rfl (Nat.le_of_ble_eq_true rfl) hk (fun r2 u2 h2 => ?_)
  refine n_icmp_eq eL_law_1555 (fun _ => kk u2 h2.2) (fun q => absurd h2.1.symm q)
theorem lc_count {st : St} (hR : RelE st) (hX : scrT s A ad Ls xs) (hi : i + 6 ≤ Ls) (hk : kc ≤ room_1.cells ∧ ks ≤ room_1.slots) (kk : ∀ u, RelE u → GQ p l e room_1 s m #[Value.ref b] below meth c D cy ad A (cL_law, RL, 7, ret) Q kc ks (fun _ => True) 1585 [some (.ref 140), some (.ref 0), some (.ref 31), some (.ref 30), some (.int (nI i)), x5, x6] [] u) : GQ p l e room_1 s m #[Value.ref b] below meth c D cy ad A (cL_law, RL, 7, ret) Q kc ks (fun _ => True) 1560 [some (.ref 140), some (.ref 0), some (.ref 31), some (.ref 30), some (.int (nI i)), x5, x6] [] st := by
  obtain ⟨t, nk, n, np, nt, hR⟩ := hR
  have hp := pr_count (l := l) (D := D) (cy := cy) hR (xs (i + 1))
  unfold Pair at hp
  refine n_ald1 eL_law_1560 ?_
  refine q_arg (k := 1) (z := 1) (v := 1) hX (by omega) rfl (by decide) eL_law_1561 eL_law_1562 eL_law_1564 eL_law_1565 eL_law_1566 ?_
  refine q_callVi (ci := 10) (as := [.int (xs (i + 1))]) hp rfl (Nat.le_of_ble_eq_true rfl) (Nat.le_of_ble_eq_true rfl) rfl cv_L_173 eL_law_1567 (⟨Nat.le_of_ble_eq_true rfl, Nat.le_of_ble_eq_true rfl⟩) rfl rfl (Nat.le_of_ble_eq_true rfl) hk (fun r u h => ?_)
  refine n_ald2 eL_law_1570 ?_
  refine q_arg (k := 1) (z := 1) (v := 1) hX (by omega) rfl (by decide) eL_law_1571 eL_law_1572 eL_law_1574 eL_law_1575 eL_law_1576 ?_
  refine q_callVi (ci := 11) (as := [.int (xs (i + 1))]) h rfl (Nat.le_of_ble_eq_true rfl) (Nat.le_of_ble_eq_true rfl) rfl cv_L_176 eL_law_1577 (⟨Nat.le_of_ble_eq_true rfl, Nat.le_of_ble_eq_true rfl⟩) rfl rfl (Nat.le_of_ble_eq_true rfl) hk (fun r2 u2 h2 => ?_)
  refine n_icmp_eq eL_law_1580 (fun _ => kk u2 h2.2) (fun q => absurd h2.1.symm q)
end CASES
