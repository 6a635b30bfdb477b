/-! the law's cases (2) -/
section CASES
variable {p : Program} {l : Launch} {e : Env} {s : State} {m : MethodId} {args : Array Value} {below : List Frame} {meth : Method} {c : Code} {D : va_G} {g : GT} {A : Nat → Prop} {a : Nat → Nat} {b : Nat → Nat → Nat} {k n : Nat} {Q : State → Prop} {M : Mem} {b0 L : Nat} {xs : Nat → Int32} {C : Nat → Nat → Int} {i : Nat}
set_option maxHeartbeats 1000000 in
set_option maxRecDepth 20000 in
theorem law_1 (X : vC p s m args meth c D g A RL wsL_law cL_law 9) (hY : YX s) (hlt : l.stackTraces = false) (hX : XS s A b0 L xs) (hi : i + 6 ≤ L) (hS : StB C M) (hk : k + 8 ≤ room_1.cells ∧ n + 60 ≤ room_1.slots) (K : ∀ (C' : Nat → Nat → Int) (M' : Mem), StB C' M' → vV p l e room_1 s m args below meth c D g A a b 9 (k + 8) (n + 60) Q M' (lv5 a b b0 i) 2145 []) : vV p l e room_1 s m args below meth c D g A a b 9 k n Q M (lv5 a b b0 i) 264 [] := by
  obtain ⟨hW, hI, hC, hB⟩ := hS
  obtain ⟨code, ans, C', hc, hb, hq, hm⟩ := pk_i3 (ag_add hW (ci_r (xs := xs) (i := i + 1)) (ci_r (xs := xs) (i := i + 2)) (ci_r (xs := xs) (i := i + 3)) (ci_r (xs := xs) (i := i + 4)) (ci_r (xs := xs) (i := i + 5))) hI hC hB
  refine V_aload_n X dL_law_264 rfl (q := 1) rfl ?_
  refine V_cell X hX (i := i) (j := 1) (q0 := 0) (q4 := 4) rfl (by omega) rfl rfl dL_law_265 dL_law_266 dL_law_268 dL_law_269 dL_law_270 ?_
  refine V_cell X hX (i := i) (j := 2) (q0 := 0) (q4 := 4) rfl (by omega) rfl rfl dL_law_271 dL_law_272 dL_law_274 dL_law_275 dL_law_276 ?_
  refine V_cell X hX (i := i) (j := 3) (q0 := 0) (q4 := 4) rfl (by omega) rfl rfl dL_law_277 dL_law_278 dL_law_280 dL_law_281 dL_law_282 ?_
  refine V_cell X hX (i := i) (j := 4) (q0 := 0) (q4 := 4) rfl (by omega) rfl rfl dL_law_283 dL_law_284 dL_law_286 dL_law_287 dL_law_288 ?_
  refine V_cell X hX (i := i) (j := 5) (q0 := 0) (q4 := 4) rfl (by omega) rfl rfl dL_law_289 dL_law_290 dL_law_292 dL_law_293 dL_law_294 ?_
  refine V_aload_n X dL_law_295 rfl (q := 3) rfl ?_
  refine V_callH (As := [.ref (a 0), iv (ci xs (i + 1)), iv (ci xs (i + 2)), iv (ci xs (i + 3)), iv (ci xs (i + 4)), iv (ci xs (i + 5)), .ref (b 14 0)]) (st := []) X hY (QH code ans C C') (c_L_add l (Q := (QH code ans C C')) hlt hq) (vx_cwSW 7 X.2.2.2.1 gL_law_L_add rfl rfl rfl (by decide +kernel) ⟨Nat.le_of_ble_eq_true rfl, Nat.le_of_ble_eq_true rfl⟩) rfl (Nat.le_of_ble_eq_true rfl) ⟨by omega, by omega⟩ rfl dL_law_296 (fun r M1 hq1 => ?_)
  obtain ⟨er, hm1⟩ := hm M1 r hq1
  rw [er]
  refine V_istore (lv1 := lv6 a b b0 i code) X [1, 2, 3, 4, 5, 0] dL_law_299 (by decide) rfl ?_
  refine V_aload_n X dL_law_301 rfl (q := 2) rfl ?_
  refine V_cell X hX (i := i) (j := 1) (q0 := 0) (q4 := 4) rfl (by omega) rfl rfl dL_law_302 dL_law_303 dL_law_305 dL_law_306 dL_law_307 ?_
  refine V_cell X hX (i := i) (j := 2) (q0 := 0) (q4 := 4) rfl (by omega) rfl rfl dL_law_308 dL_law_309 dL_law_311 dL_law_312 dL_law_313 ?_
  refine V_cell X hX (i := i) (j := 3) (q0 := 0) (q4 := 4) rfl (by omega) rfl rfl dL_law_314 dL_law_315 dL_law_317 dL_law_318 dL_law_319 ?_
  refine V_cell X hX (i := i) (j := 4) (q0 := 0) (q4 := 4) rfl (by omega) rfl rfl dL_law_320 dL_law_321 dL_law_323 dL_law_324 dL_law_325 ?_
  refine V_cell X hX (i := i) (j := 5) (q0 := 0) (q4 := 4) rfl (by omega) rfl rfl dL_law_326 dL_law_327 dL_law_329 dL_law_330 dL_law_331 ?_
  refine V_callV_i X (fun r3 M3 => (r3 = if code = 0 then ans else 0) ∧ StB C' M3 ∧ M3 13 23 0 = code ∧ (code = 0 → M3 14 0 0 = ans)) gO_13 rfl (As := [iv (ci xs (i + 1)), iv (ci xs (i + 2)), iv (ci xs (i + 3)), iv (ci xs (i + 4)), iv (ci xs (i + 5))]) (st := []) (c_X11_add l (Q := (fun r3 M3 => (r3 = if code = 0 then ans else 0) ∧ StB C' M3 ∧ M3 13 23 0 = code ∧ (code = 0 → M3 14 0 0 = ans))) (hm1 (fun r3 M3 => (r3 = if code = 0 then ans else 0) ∧ StB C' M3 ∧ M3 13 23 0 = code ∧ (code = 0 → M3 14 0 0 = ans)) (fun M3 S e1 e2 => ⟨rfl, S, e1, e2⟩))) (cwV 5 X.2.2.2.1 gL_law_X11_add rfl rfl rfl (by decide +kernel) ⟨Nat.le_of_ble_eq_true rfl, Nat.le_of_ble_eq_true rfl⟩) rfl (Nat.le_of_ble_eq_true rfl) ⟨by omega, by omega⟩ rfl dL_law_332 (fun r3 M3 hw3 => ?_)
  obtain ⟨e3, S3, c3, o3⟩ := hw3
  rw [e3]
  exact V_widen (k1 := k + 8) (n1 := n + 60) (by omega) (by omega) (V_tailB X rfl hc (ite_r hb) c3 (fun z => by rw [if_pos z]; exact o3 z) dL_law_335 dL_law_337 dL_law_338 dL_law_341 dL_law_343 dL_law_348 dL_law_350 dL_law_353 dL_law_354 dL_law_355 dL_law_356 dL_law_358 dL_law_359 dL_law_360 dL_law_365 (by decide) hk (K C' M3 S3))
set_option maxHeartbeats 1000000 in
set_option maxRecDepth 20000 in
theorem law_2 (X : vC p s m args meth c D g A RL wsL_law cL_law 9) (hY : YX s) (hlt : l.stackTraces = false) (hX : XS s A b0 L xs) (hi : i + 6 ≤ L) (hS : StB C M) (hk : k + 8 ≤ room_1.cells ∧ n + 60 ≤ room_1.slots) (K : ∀ (C' : Nat → Nat → Int) (M' : Mem), StB C' M' → vV p l e room_1 s m args below meth c D g A a b 9 (k + 8) (n + 60) Q M' (lv5 a b b0 i) 2145 []) : vV p l e room_1 s m args below meth c D g A a b 9 k n Q M (lv5 a b b0 i) 368 [] := by
  obtain ⟨hW, hI, hC, hB⟩ := hS
  obtain ⟨code, ans, C', hc, hb, hq, hm⟩ := pk_i2 (ag_setLabel hW (ci_r (xs := xs) (i := i + 1)) (ci_r (xs := xs) (i := i + 2)) (ci_r (xs := xs) (i := i + 3))) hI hC hB
  refine V_aload_n X dL_law_368 rfl (q := 1) rfl ?_
  refine V_cell X hX (i := i) (j := 1) (q0 := 0) (q4 := 4) rfl (by omega) rfl rfl dL_law_369 dL_law_370 dL_law_372 dL_law_373 dL_law_374 ?_
  refine V_cell X hX (i := i) (j := 2) (q0 := 0) (q4 := 4) rfl (by omega) rfl rfl dL_law_375 dL_law_376 dL_law_378 dL_law_379 dL_law_380 ?_
  refine V_cell X hX (i := i) (j := 3) (q0 := 0) (q4 := 4) rfl (by omega) rfl rfl dL_law_381 dL_law_382 dL_law_384 dL_law_385 dL_law_386 ?_
  refine V_aload_n X dL_law_387 rfl (q := 3) rfl ?_
  refine V_callH (As := [.ref (a 0), iv (ci xs (i + 1)), iv (ci xs (i + 2)), iv (ci xs (i + 3)), .ref (b 14 0)]) (st := []) X hY (QH code ans C C') (c_L_setLabel l (Q := (QH code ans C C')) hlt hq) (vx_cwSW 5 X.2.2.2.1 gL_law_L_setLabel rfl rfl rfl (by decide +kernel) ⟨Nat.le_of_ble_eq_true rfl, Nat.le_of_ble_eq_true rfl⟩) rfl (Nat.le_of_ble_eq_true rfl) ⟨by omega, by omega⟩ rfl dL_law_388 (fun r M1 hq1 => ?_)
  obtain ⟨er, hm1⟩ := hm M1 r hq1
  rw [er]
  refine V_istore (lv1 := lv6 a b b0 i code) X [1, 2, 3, 4, 5, 0] dL_law_391 (by decide) rfl ?_
  refine V_aload_n X dL_law_393 rfl (q := 2) rfl ?_
  refine V_cell X hX (i := i) (j := 1) (q0 := 0) (q4 := 4) rfl (by omega) rfl rfl dL_law_394 dL_law_395 dL_law_397 dL_law_398 dL_law_399 ?_
  refine V_cell X hX (i := i) (j := 2) (q0 := 0) (q4 := 4) rfl (by omega) rfl rfl dL_law_400 dL_law_401 dL_law_403 dL_law_404 dL_law_405 ?_
  refine V_cell X hX (i := i) (j := 3) (q0 := 0) (q4 := 4) rfl (by omega) rfl rfl dL_law_406 dL_law_407 dL_law_409 dL_law_410 dL_law_411 ?_
  refine V_callV_i X (fun r3 M3 => (r3 = if code = 0 then ans else 0) ∧ StB C' M3 ∧ M3 13 23 0 = code ∧ (code = 0 → M3 14 0 0 = ans)) gO_13 rfl (As := [iv (ci xs (i + 1)), iv (ci xs (i + 2)), iv (ci xs (i + 3))]) (st := []) (c_X11_setLabel l (Q := (fun r3 M3 => (r3 = if code = 0 then ans else 0) ∧ StB C' M3 ∧ M3 13 23 0 = code ∧ (code = 0 → M3 14 0 0 = ans))) (hm1 (fun r3 M3 => (r3 = if code = 0 then ans else 0) ∧ StB C' M3 ∧ M3 13 23 0 = code ∧ (code = 0 → M3 14 0 0 = ans)) (fun M3 S e1 e2 => ⟨rfl, S, e1, e2⟩))) (cwV 3 X.2.2.2.1 gL_law_X11_setLabel rfl rfl rfl (by decide +kernel) ⟨Nat.le_of_ble_eq_true rfl, Nat.le_of_ble_eq_true rfl⟩) rfl (Nat.le_of_ble_eq_true rfl) ⟨by omega, by omega⟩ rfl dL_law_412 (fun r3 M3 hw3 => ?_)
  obtain ⟨e3, S3, c3, o3⟩ := hw3
  rw [e3]
  exact V_widen (k1 := k + 8) (n1 := n + 60) (by omega) (by omega) (V_tailB X rfl hc (ite_r hb) c3 (fun z => by rw [if_pos z]; exact o3 z) dL_law_415 dL_law_417 dL_law_418 dL_law_421 dL_law_423 dL_law_428 dL_law_430 dL_law_433 dL_law_434 dL_law_435 dL_law_436 dL_law_438 dL_law_439 dL_law_440 dL_law_445 (by decide) hk (K C' M3 S3))
set_option maxHeartbeats 1000000 in
set_option maxRecDepth 20000 in
theorem law_3 (X : vC p s m args meth c D g A RL wsL_law cL_law 9) (hY : YX s) (hlt : l.stackTraces = false) (hX : XS s A b0 L xs) (hi : i + 6 ≤ L) (hS : StB C M) (hk : k + 8 ≤ room_1.cells ∧ n + 60 ≤ room_1.slots) (K : ∀ (C' : Nat → Nat → Int) (M' : Mem), StB C' M' → vV p l e room_1 s m args below meth c D g A a b 9 (k + 8) (n + 60) Q M' (lv5 a b b0 i) 2145 []) : vV p l e room_1 s m args below meth c D g A a b 9 k n Q M (lv5 a b b0 i) 448 [] := by
  obtain ⟨hW, hI, hC, hB⟩ := hS
  obtain ⟨code, C', hc, hq, hm⟩ := pk_v1 (ag_clear hW (ci_r (xs := xs) (i := i + 1))) hI hC hB
  refine V_aload_n X dL_law_448 rfl (q := 1) rfl ?_
  refine V_cell X hX (i := i) (j := 1) (q0 := 0) (q4 := 4) rfl (by omega) rfl rfl dL_law_449 dL_law_450 dL_law_452 dL_law_453 dL_law_454 ?_
  refine V_callH (As := [.ref (a 0), iv (ci xs (i + 1))]) (st := []) X hY (QV code C C') (c_L_clear l (Q := (QV code C C')) hlt hq) (vx_cwSW 2 X.2.2.2.1 gL_law_L_clear rfl rfl rfl (by decide +kernel) ⟨Nat.le_of_ble_eq_true rfl, Nat.le_of_ble_eq_true rfl⟩) rfl (Nat.le_of_ble_eq_true rfl) ⟨by omega, by omega⟩ rfl dL_law_455 (fun r M1 hq1 => ?_)
  obtain ⟨er, hm1⟩ := hm M1 r hq1
  rw [er]
  refine V_istore (lv1 := lv6 a b b0 i code) X [1, 2, 3, 4, 5, 0] dL_law_458 (by decide) rfl ?_
  refine V_aload_n X dL_law_460 rfl (q := 2) rfl ?_
  refine V_cell X hX (i := i) (j := 1) (q0 := 0) (q4 := 4) rfl (by omega) rfl rfl dL_law_461 dL_law_462 dL_law_464 dL_law_465 dL_law_466 ?_
  refine V_callV_v X (fun M3 => StB C' M3 ∧ M3 13 23 0 = code) gO_13 rfl (As := [iv (ci xs (i + 1))]) (st := []) (c_X11_clear l (Q := (fun M3 => StB C' M3 ∧ M3 13 23 0 = code)) (hm1 (fun M3 => StB C' M3 ∧ M3 13 23 0 = code) (fun M3 S e1 => ⟨S, e1⟩))) (cwV 1 X.2.2.2.1 gL_law_X11_clear rfl rfl rfl (by decide +kernel) ⟨Nat.le_of_ble_eq_true rfl, Nat.le_of_ble_eq_true rfl⟩) rfl (Nat.le_of_ble_eq_true rfl) ⟨by omega, by omega⟩ rfl dL_law_467 (fun M3 hw3 => ?_)
  obtain ⟨S3, c3⟩ := hw3
  exact V_widen (k1 := k + 8) (n1 := n + 60) (by omega) (by omega) (V_tailA X rfl hc c3 dL_law_470 dL_law_471 dL_law_474 dL_law_476 dL_law_481 (by decide) hk (K C' M3 S3))
set_option maxHeartbeats 1000000 in
set_option maxRecDepth 20000 in
theorem law_5 (X : vC p s m args meth c D g A RL wsL_law cL_law 9) (hY : YX s) (hlt : l.stackTraces = false) (hX : XS s A b0 L xs) (hi : i + 6 ≤ L) (hS : StB C M) (hk : k + 8 ≤ room_1.cells ∧ n + 60 ≤ room_1.slots) (K : ∀ (C' : Nat → Nat → Int) (M' : Mem), StB C' M' → vV p l e room_1 s m args below meth c D g A a b 9 (k + 8) (n + 60) Q M' (lv5 a b b0 i) 2145 []) : vV p l e room_1 s m args below meth c D g A a b 9 k n Q M (lv5 a b b0 i) 495 [] := by
  obtain ⟨hW, hI, hC, hB⟩ := hS
  obtain ⟨code, C', hc, hq, hm⟩ := pk_v2 (ag_setPrices hW (ci_r (xs := xs) (i := i + 1)) (ci_r (xs := xs) (i := i + 2)) (ci_r (xs := xs) (i := i + 3)) (ci_r (xs := xs) (i := i + 4))) hI hC hB
  refine V_aload_n X dL_law_495 rfl (q := 1) rfl ?_
  refine V_cell X hX (i := i) (j := 1) (q0 := 0) (q4 := 4) rfl (by omega) rfl rfl dL_law_496 dL_law_497 dL_law_499 dL_law_500 dL_law_501 ?_
  refine V_cell X hX (i := i) (j := 2) (q0 := 0) (q4 := 4) rfl (by omega) rfl rfl dL_law_502 dL_law_503 dL_law_505 dL_law_506 dL_law_507 ?_
  refine V_cell X hX (i := i) (j := 3) (q0 := 0) (q4 := 4) rfl (by omega) rfl rfl dL_law_508 dL_law_509 dL_law_511 dL_law_512 dL_law_513 ?_
  refine V_cell X hX (i := i) (j := 4) (q0 := 0) (q4 := 4) rfl (by omega) rfl rfl dL_law_514 dL_law_515 dL_law_517 dL_law_518 dL_law_519 ?_
  refine V_callH (As := [.ref (a 0), iv (ci xs (i + 1)), iv (ci xs (i + 2)), iv (ci xs (i + 3)), iv (ci xs (i + 4))]) (st := []) X hY (QV code C C') (c_L_setPrices l (Q := (QV code C C')) hlt hq) (vx_cwSW 5 X.2.2.2.1 gL_law_L_setPrices rfl rfl rfl (by decide +kernel) ⟨Nat.le_of_ble_eq_true rfl, Nat.le_of_ble_eq_true rfl⟩) rfl (Nat.le_of_ble_eq_true rfl) ⟨by omega, by omega⟩ rfl dL_law_520 (fun r M1 hq1 => ?_)
  obtain ⟨er, hm1⟩ := hm M1 r hq1
  rw [er]
  refine V_istore (lv1 := lv6 a b b0 i code) X [1, 2, 3, 4, 5, 0] dL_law_523 (by decide) rfl ?_
  refine V_aload_n X dL_law_525 rfl (q := 2) rfl ?_
  refine V_cell X hX (i := i) (j := 1) (q0 := 0) (q4 := 4) rfl (by omega) rfl rfl dL_law_526 dL_law_527 dL_law_529 dL_law_530 dL_law_531 ?_
  refine V_cell X hX (i := i) (j := 2) (q0 := 0) (q4 := 4) rfl (by omega) rfl rfl dL_law_532 dL_law_533 dL_law_535 dL_law_536 dL_law_537 ?_
  refine V_cell X hX (i := i) (j := 3) (q0 := 0) (q4 := 4) rfl (by omega) rfl rfl dL_law_538 dL_law_539 dL_law_541 dL_law_542 dL_law_543 ?_
  refine V_cell X hX (i := i) (j := 4) (q0 := 0) (q4 := 4) rfl (by omega) rfl rfl dL_law_544 dL_law_545 dL_law_547 dL_law_548 dL_law_549 ?_
  refine V_callV_v X (fun M3 => StB C' M3 ∧ M3 13 23 0 = code) gO_13 rfl (As := [iv (ci xs (i + 1)), iv (ci xs (i + 2)), iv (ci xs (i + 3)), iv (ci xs (i + 4))]) (st := []) (c_X11_setPrices l (Q := (fun M3 => StB C' M3 ∧ M3 13 23 0 = code)) (hm1 (fun M3 => StB C' M3 ∧ M3 13 23 0 = code) (fun M3 S e1 => ⟨S, e1⟩))) (cwV 4 X.2.2.2.1 gL_law_X11_setPrices rfl rfl rfl (by decide +kernel) ⟨Nat.le_of_ble_eq_true rfl, Nat.le_of_ble_eq_true rfl⟩) rfl (Nat.le_of_ble_eq_true rfl) ⟨by omega, by omega⟩ rfl dL_law_550 (fun M3 hw3 => ?_)
  obtain ⟨S3, c3⟩ := hw3
  exact V_widen (k1 := k + 8) (n1 := n + 60) (by omega) (by omega) (V_tailA X rfl hc c3 dL_law_553 dL_law_554 dL_law_557 dL_law_559 dL_law_564 (by decide) hk (K C' M3 S3))
set_option maxHeartbeats 1000000 in
set_option maxRecDepth 20000 in
theorem law_6 (X : vC p s m args meth c D g A RL wsL_law cL_law 9) (hY : YX s) (hlt : l.stackTraces = false) (hX : XS s A b0 L xs) (hi : i + 6 ≤ L) (hS : StB C M) (hk : k + 8 ≤ room_1.cells ∧ n + 60 ≤ room_1.slots) (K : ∀ (C' : Nat → Nat → Int) (M' : Mem), StB C' M' → vV p l e room_1 s m args below meth c D g A a b 9 (k + 8) (n + 60) Q M' (lv5 a b b0 i) 2145 []) : vV p l e room_1 s m args below meth c D g A a b 9 k n Q M (lv5 a b b0 i) 567 [] := by
  obtain ⟨hW, hI, hC, hB⟩ := hS
  obtain ⟨code, ans, C', hc, hb, hq, hm⟩ := pk_p1 (ag_setMovePrice hW (ci_r (xs := xs) (i := i + 1))) hI hC hB
  refine V_aload_n X dL_law_567 rfl (q := 1) rfl ?_
  refine V_cell X hX (i := i) (j := 1) (q0 := 0) (q4 := 4) rfl (by omega) rfl rfl dL_law_568 dL_law_569 dL_law_571 dL_law_572 dL_law_573 ?_
  refine V_aload_n X dL_law_574 rfl (q := 3) rfl ?_
  refine V_callH (As := [.ref (a 0), iv (ci xs (i + 1)), .ref (b 14 0)]) (st := []) X hY (QH code ans C C') (c_L_setMovePrice l (Q := (QH code ans C C')) hlt hq) (vx_cwSW 3 X.2.2.2.1 gL_law_L_setMovePrice rfl rfl rfl (by decide +kernel) ⟨Nat.le_of_ble_eq_true rfl, Nat.le_of_ble_eq_true rfl⟩) rfl (Nat.le_of_ble_eq_true rfl) ⟨by omega, by omega⟩ rfl dL_law_575 (fun r M1 hq1 => ?_)
  obtain ⟨er, hm1⟩ := hm M1 r hq1
  rw [er]
  refine V_istore (lv1 := lv6 a b b0 i code) X [1, 2, 3, 4, 5, 0] dL_law_578 (by decide) rfl ?_
  refine V_aload_n X dL_law_580 rfl (q := 2) rfl ?_
  refine V_cell X hX (i := i) (j := 1) (q0 := 0) (q4 := 4) rfl (by omega) rfl rfl dL_law_581 dL_law_582 dL_law_584 dL_law_585 dL_law_586 ?_
  refine V_callV_i X (fun r3 M3 => (r3 = if code = 0 then ans else 0) ∧ StB C' M3 ∧ M3 13 23 0 = code ∧ (code = 0 → M3 14 0 0 = ans)) gO_13 rfl (As := [iv (ci xs (i + 1))]) (st := []) (c_X11_setMovePrice l (Q := (fun r3 M3 => (r3 = if code = 0 then ans else 0) ∧ StB C' M3 ∧ M3 13 23 0 = code ∧ (code = 0 → M3 14 0 0 = ans))) (hm1 (fun r3 M3 => (r3 = if code = 0 then ans else 0) ∧ StB C' M3 ∧ M3 13 23 0 = code ∧ (code = 0 → M3 14 0 0 = ans)) (fun M3 S e1 e2 => ⟨rfl, S, e1, e2⟩))) (cwV 1 X.2.2.2.1 gL_law_X11_setMovePrice rfl rfl rfl (by decide +kernel) ⟨Nat.le_of_ble_eq_true rfl, Nat.le_of_ble_eq_true rfl⟩) rfl (Nat.le_of_ble_eq_true rfl) ⟨by omega, by omega⟩ rfl dL_law_587 (fun r3 M3 hw3 => ?_)
  obtain ⟨e3, S3, c3, o3⟩ := hw3
  rw [e3]
  exact V_widen (k1 := k + 8) (n1 := n + 60) (by omega) (by omega) (V_tailB X rfl hc (ite_r hb) c3 (fun z => by rw [if_pos z]; exact o3 z) dL_law_590 dL_law_592 dL_law_593 dL_law_596 dL_law_598 dL_law_603 dL_law_605 dL_law_608 dL_law_609 dL_law_610 dL_law_611 dL_law_613 dL_law_614 dL_law_615 dL_law_620 (by decide) hk (K C' M3 S3))
set_option maxHeartbeats 1000000 in
set_option maxRecDepth 20000 in
theorem law_8 (X : vC p s m args meth c D g A RL wsL_law cL_law 9) (hY : YX s) (hlt : l.stackTraces = false) (hX : XS s A b0 L xs) (hi : i + 6 ≤ L) (hS : StB C M) (hk : k + 8 ≤ room_1.cells ∧ n + 60 ≤ room_1.slots) (K : ∀ (C' : Nat → Nat → Int) (M' : Mem), StB C' M' → vV p l e room_1 s m args below meth c D g A a b 9 (k + 8) (n + 60) Q M' (lv5 a b b0 i) 2145 []) : vV p l e room_1 s m args below meth c D g A a b 9 k n Q M (lv5 a b b0 i) 679 [] := by
  obtain ⟨hW, hI, hC, hB⟩ := hS
  obtain ⟨code, ans, C', hc, hb, hq, hm⟩ := pk_i1 (ag_parentOf hW (ci_r (xs := xs) (i := i + 1)) (ci_r (xs := xs) (i := i + 2))) hI hC hB
  refine V_aload_n X dL_law_679 rfl (q := 1) rfl ?_
  refine V_cell X hX (i := i) (j := 1) (q0 := 0) (q4 := 4) rfl (by omega) rfl rfl dL_law_680 dL_law_681 dL_law_683 dL_law_684 dL_law_685 ?_
  refine V_cell X hX (i := i) (j := 2) (q0 := 0) (q4 := 4) rfl (by omega) rfl rfl dL_law_686 dL_law_687 dL_law_689 dL_law_690 dL_law_691 ?_
  refine V_aload_n X dL_law_692 rfl (q := 3) rfl ?_
  refine V_callH (As := [.ref (a 0), iv (ci xs (i + 1)), iv (ci xs (i + 2)), .ref (b 14 0)]) (st := []) X hY (QH code ans C C') (c_L_parentOf l (Q := (QH code ans C C')) hlt hq) (vx_cwSW 4 X.2.2.2.1 gL_law_L_parentOf rfl rfl rfl (by decide +kernel) ⟨Nat.le_of_ble_eq_true rfl, Nat.le_of_ble_eq_true rfl⟩) rfl (Nat.le_of_ble_eq_true rfl) ⟨by omega, by omega⟩ rfl dL_law_693 (fun r M1 hq1 => ?_)
  obtain ⟨er, hm1⟩ := hm M1 r hq1
  rw [er]
  refine V_istore (lv1 := lv6 a b b0 i code) X [1, 2, 3, 4, 5, 0] dL_law_696 (by decide) rfl ?_
  refine V_aload_n X dL_law_698 rfl (q := 2) rfl ?_
  refine V_cell X hX (i := i) (j := 1) (q0 := 0) (q4 := 4) rfl (by omega) rfl rfl dL_law_699 dL_law_700 dL_law_702 dL_law_703 dL_law_704 ?_
  refine V_cell X hX (i := i) (j := 2) (q0 := 0) (q4 := 4) rfl (by omega) rfl rfl dL_law_705 dL_law_706 dL_law_708 dL_law_709 dL_law_710 ?_
  refine V_callV_i X (fun r3 M3 => (r3 = if code = 0 then ans else 0) ∧ StB C' M3 ∧ M3 13 23 0 = code ∧ (code = 0 → M3 14 0 0 = ans)) gO_13 rfl (As := [iv (ci xs (i + 1)), iv (ci xs (i + 2))]) (st := []) (c_X11_parentOf l (Q := (fun r3 M3 => (r3 = if code = 0 then ans else 0) ∧ StB C' M3 ∧ M3 13 23 0 = code ∧ (code = 0 → M3 14 0 0 = ans))) (hm1 (fun r3 M3 => (r3 = if code = 0 then ans else 0) ∧ StB C' M3 ∧ M3 13 23 0 = code ∧ (code = 0 → M3 14 0 0 = ans)) (fun M3 S e1 e2 => ⟨rfl, S, e1, e2⟩))) (cwV 2 X.2.2.2.1 gL_law_X11_parentOf rfl rfl rfl (by decide +kernel) ⟨Nat.le_of_ble_eq_true rfl, Nat.le_of_ble_eq_true rfl⟩) rfl (Nat.le_of_ble_eq_true rfl) ⟨by omega, by omega⟩ rfl dL_law_711 (fun r3 M3 hw3 => ?_)
  obtain ⟨e3, S3, c3, o3⟩ := hw3
  rw [e3]
  exact V_widen (k1 := k + 8) (n1 := n + 60) (by omega) (by omega) (V_tailB X rfl hc (ite_r hb) c3 (fun z => by rw [if_pos z]; exact o3 z) dL_law_714 dL_law_716 dL_law_717 dL_law_720 dL_law_722 dL_law_727 dL_law_729 dL_law_732 dL_law_733 dL_law_734 dL_law_735 dL_law_737 dL_law_738 dL_law_739 dL_law_744 (by decide) hk (K C' M3 S3))
set_option maxHeartbeats 1000000 in
set_option maxRecDepth 20000 in
theorem law_9 (X : vC p s m args meth c D g A RL wsL_law cL_law 9) (hY : YX s) (hlt : l.stackTraces = false) (hX : XS s A b0 L xs) (hi : i + 6 ≤ L) (hS : StB C M) (hk : k + 8 ≤ room_1.cells ∧ n + 60 ≤ room_1.slots) (K : ∀ (C' : Nat → Nat → Int) (M' : Mem), StB C' M' → vV p l e room_1 s m args below meth c D g A a b 9 (k + 8) (n + 60) Q M' (lv5 a b b0 i) 2145 []) : vV p l e room_1 s m args below meth c D g A a b 9 k n Q M (lv5 a b b0 i) 747 [] := by
  obtain ⟨hW, hI, hC, hB⟩ := hS
  obtain ⟨code, ans, C', hc, hb, hq, hm⟩ := pk_i1 (ag_kindOf hW (ci_r (xs := xs) (i := i + 1)) (ci_r (xs := xs) (i := i + 2))) hI hC hB
  refine V_aload_n X dL_law_747 rfl (q := 1) rfl ?_
  refine V_cell X hX (i := i) (j := 1) (q0 := 0) (q4 := 4) rfl (by omega) rfl rfl dL_law_748 dL_law_749 dL_law_751 dL_law_752 dL_law_753 ?_
  refine V_cell X hX (i := i) (j := 2) (q0 := 0) (q4 := 4) rfl (by omega) rfl rfl dL_law_754 dL_law_755 dL_law_757 dL_law_758 dL_law_759 ?_
  refine V_aload_n X dL_law_760 rfl (q := 3) rfl ?_
  refine V_callH (As := [.ref (a 0), iv (ci xs (i + 1)), iv (ci xs (i + 2)), .ref (b 14 0)]) (st := []) X hY (QH code ans C C') (c_L_kindOf l (Q := (QH code ans C C')) hlt hq) (vx_cwSW 4 X.2.2.2.1 gL_law_L_kindOf rfl rfl rfl (by decide +kernel) ⟨Nat.le_of_ble_eq_true rfl, Nat.le_of_ble_eq_true rfl⟩) rfl (Nat.le_of_ble_eq_true rfl) ⟨by omega, by omega⟩ rfl dL_law_761 (fun r M1 hq1 => ?_)
  obtain ⟨er, hm1⟩ := hm M1 r hq1
  rw [er]
  refine V_istore (lv1 := lv6 a b b0 i code) X [1, 2, 3, 4, 5, 0] dL_law_764 (by decide) rfl ?_
  refine V_aload_n X dL_law_766 rfl (q := 2) rfl ?_
  refine V_cell X hX (i := i) (j := 1) (q0 := 0) (q4 := 4) rfl (by omega) rfl rfl dL_law_767 dL_law_768 dL_law_770 dL_law_771 dL_law_772 ?_
  refine V_cell X hX (i := i) (j := 2) (q0 := 0) (q4 := 4) rfl (by omega) rfl rfl dL_law_773 dL_law_774 dL_law_776 dL_law_777 dL_law_778 ?_
  refine V_callV_i X (fun r3 M3 => (r3 = if code = 0 then ans else 0) ∧ StB C' M3 ∧ M3 13 23 0 = code ∧ (code = 0 → M3 14 0 0 = ans)) gO_13 rfl (As := [iv (ci xs (i + 1)), iv (ci xs (i + 2))]) (st := []) (c_X11_kindOf l (Q := (fun r3 M3 => (r3 = if code = 0 then ans else 0) ∧ StB C' M3 ∧ M3 13 23 0 = code ∧ (code = 0 → M3 14 0 0 = ans))) (hm1 (fun r3 M3 => (r3 = if code = 0 then ans else 0) ∧ StB C' M3 ∧ M3 13 23 0 = code ∧ (code = 0 → M3 14 0 0 = ans)) (fun M3 S e1 e2 => ⟨rfl, S, e1, e2⟩))) (cwV 2 X.2.2.2.1 gL_law_X11_kindOf rfl rfl rfl (by decide +kernel) ⟨Nat.le_of_ble_eq_true rfl, Nat.le_of_ble_eq_true rfl⟩) rfl (Nat.le_of_ble_eq_true rfl) ⟨by omega, by omega⟩ rfl dL_law_779 (fun r3 M3 hw3 => ?_)
  obtain ⟨e3, S3, c3, o3⟩ := hw3
  rw [e3]
  exact V_widen (k1 := k + 8) (n1 := n + 60) (by omega) (by omega) (V_tailB X rfl hc (ite_r hb) c3 (fun z => by rw [if_pos z]; exact o3 z) dL_law_782 dL_law_784 dL_law_785 dL_law_788 dL_law_790 dL_law_795 dL_law_797 dL_law_800 dL_law_801 dL_law_802 dL_law_803 dL_law_805 dL_law_806 dL_law_807 dL_law_812 (by decide) hk (K C' M3 S3))
set_option maxHeartbeats 1000000 in
set_option maxRecDepth 20000 in
theorem law_10 (X : vC p s m args meth c D g A RL wsL_law cL_law 9) (hY : YX s) (hlt : l.stackTraces = false) (hX : XS s A b0 L xs) (hi : i + 6 ≤ L) (hS : StB C M) (hk : k + 8 ≤ room_1.cells ∧ n + 60 ≤ room_1.slots) (K : ∀ (C' : Nat → Nat → Int) (M' : Mem), StB C' M' → vV p l e room_1 s m args below meth c D g A a b 9 (k + 8) (n + 60) Q M' (lv5 a b b0 i) 2145 []) : vV p l e room_1 s m args below meth c D g A a b 9 k n Q M (lv5 a b b0 i) 815 [] := by
  obtain ⟨hW, hI, hC, hB⟩ := hS
  obtain ⟨code, ans, C', hc, hb, hq, hm⟩ := pk_i1 (ag_labelOf hW (ci_r (xs := xs) (i := i + 1)) (ci_r (xs := xs) (i := i + 2))) hI hC hB
  refine V_aload_n X dL_law_815 rfl (q := 1) rfl ?_
  refine V_cell X hX (i := i) (j := 1) (q0 := 0) (q4 := 4) rfl (by omega) rfl rfl dL_law_816 dL_law_817 dL_law_819 dL_law_820 dL_law_821 ?_
  refine V_cell X hX (i := i) (j := 2) (q0 := 0) (q4 := 4) rfl (by omega) rfl rfl dL_law_822 dL_law_823 dL_law_825 dL_law_826 dL_law_827 ?_
  refine V_aload_n X dL_law_828 rfl (q := 3) rfl ?_
  refine V_callH (As := [.ref (a 0), iv (ci xs (i + 1)), iv (ci xs (i + 2)), .ref (b 14 0)]) (st := []) X hY (QH code ans C C') (c_L_labelOf l (Q := (QH code ans C C')) hlt hq) (vx_cwSW 4 X.2.2.2.1 gL_law_L_labelOf rfl rfl rfl (by decide +kernel) ⟨Nat.le_of_ble_eq_true rfl, Nat.le_of_ble_eq_true rfl⟩) rfl (Nat.le_of_ble_eq_true rfl) ⟨by omega, by omega⟩ rfl dL_law_829 (fun r M1 hq1 => ?_)
  obtain ⟨er, hm1⟩ := hm M1 r hq1
  rw [er]
  refine V_istore (lv1 := lv6 a b b0 i code) X [1, 2, 3, 4, 5, 0] dL_law_832 (by decide) rfl ?_
  refine V_aload_n X dL_law_834 rfl (q := 2) rfl ?_
  refine V_cell X hX (i := i) (j := 1) (q0 := 0) (q4 := 4) rfl (by omega) rfl rfl dL_law_835 dL_law_836 dL_law_838 dL_law_839 dL_law_840 ?_
  refine V_cell X hX (i := i) (j := 2) (q0 := 0) (q4 := 4) rfl (by omega) rfl rfl dL_law_841 dL_law_842 dL_law_844 dL_law_845 dL_law_846 ?_
  refine V_callV_i X (fun r3 M3 => (r3 = if code = 0 then ans else 0) ∧ StB C' M3 ∧ M3 13 23 0 = code ∧ (code = 0 → M3 14 0 0 = ans)) gO_13 rfl (As := [iv (ci xs (i + 1)), iv (ci xs (i + 2))]) (st := []) (c_X11_labelOf l (Q := (fun r3 M3 => (r3 = if code = 0 then ans else 0) ∧ StB C' M3 ∧ M3 13 23 0 = code ∧ (code = 0 → M3 14 0 0 = ans))) (hm1 (fun r3 M3 => (r3 = if code = 0 then ans else 0) ∧ StB C' M3 ∧ M3 13 23 0 = code ∧ (code = 0 → M3 14 0 0 = ans)) (fun M3 S e1 e2 => ⟨rfl, S, e1, e2⟩))) (cwV 2 X.2.2.2.1 gL_law_X11_labelOf rfl rfl rfl (by decide +kernel) ⟨Nat.le_of_ble_eq_true rfl, Nat.le_of_ble_eq_true rfl⟩) rfl (Nat.le_of_ble_eq_true rfl) ⟨by omega, by omega⟩ rfl dL_law_847 (fun r3 M3 hw3 => ?_)
  obtain ⟨e3, S3, c3, o3⟩ := hw3
  rw [e3]
  exact V_widen (k1 := k + 8) (n1 := n + 60) (by omega) (by omega) (V_tailB X rfl hc (ite_r hb) c3 (fun z => by rw [if_pos z]; exact o3 z) dL_law_850 dL_law_852 dL_law_853 dL_law_856 dL_law_858 dL_law_863 dL_law_865 dL_law_868 dL_law_869 dL_law_870 dL_law_871 dL_law_873 dL_law_874 dL_law_875 dL_law_880 (by decide) hk (K C' M3 S3))
set_option maxHeartbeats 1000000 in
set_option maxRecDepth 20000 in
theorem law_11 (X : vC p s m args meth c D g A RL wsL_law cL_law 9) (hY : YX s) (hlt : l.stackTraces = false) (hX : XS s A b0 L xs) (hi : i + 6 ≤ L) (hS : StB C M) (hk : k + 8 ≤ room_1.cells ∧ n + 60 ≤ room_1.slots) (K : ∀ (C' : Nat → Nat → Int) (M' : Mem), StB C' M' → vV p l e room_1 s m args below meth c D g A a b 9 (k + 8) (n + 60) Q M' (lv5 a b b0 i) 2145 []) : vV p l e room_1 s m args below meth c D g A a b 9 k n Q M (lv5 a b b0 i) 883 [] := by
  obtain ⟨hW, hI, hC, hB⟩ := hS
  obtain ⟨code, ans, C', hc, hb, hq, hm⟩ := pk_i1 (ag_children hW (ci_r (xs := xs) (i := i + 1)) (ci_r (xs := xs) (i := i + 2))) hI hC hB
  refine V_aload_n X dL_law_883 rfl (q := 1) rfl ?_
  refine V_cell X hX (i := i) (j := 1) (q0 := 0) (q4 := 4) rfl (by omega) rfl rfl dL_law_884 dL_law_885 dL_law_887 dL_law_888 dL_law_889 ?_
  refine V_cell X hX (i := i) (j := 2) (q0 := 0) (q4 := 4) rfl (by omega) rfl rfl dL_law_890 dL_law_891 dL_law_893 dL_law_894 dL_law_895 ?_
  refine V_aload_n X dL_law_896 rfl (q := 3) rfl ?_
  refine V_callH (As := [.ref (a 0), iv (ci xs (i + 1)), iv (ci xs (i + 2)), .ref (b 14 0)]) (st := []) X hY (QH code ans C C') (c_L_children l (Q := (QH code ans C C')) hlt hq) (vx_cwSW 4 X.2.2.2.1 gL_law_L_children rfl rfl rfl (by decide +kernel) ⟨Nat.le_of_ble_eq_true rfl, Nat.le_of_ble_eq_true rfl⟩) rfl (Nat.le_of_ble_eq_true rfl) ⟨by omega, by omega⟩ rfl dL_law_897 (fun r M1 hq1 => ?_)
  obtain ⟨er, hm1⟩ := hm M1 r hq1
  rw [er]
  refine V_istore (lv1 := lv6 a b b0 i code) X [1, 2, 3, 4, 5, 0] dL_law_900 (by decide) rfl ?_
  refine V_aload_n X dL_law_902 rfl (q := 2) rfl ?_
  refine V_cell X hX (i := i) (j := 1) (q0 := 0) (q4 := 4) rfl (by omega) rfl rfl dL_law_903 dL_law_904 dL_law_906 dL_law_907 dL_law_908 ?_
  refine V_cell X hX (i := i) (j := 2) (q0 := 0) (q4 := 4) rfl (by omega) rfl rfl dL_law_909 dL_law_910 dL_law_912 dL_law_913 dL_law_914 ?_
  refine V_callV_i X (fun r3 M3 => (r3 = if code = 0 then ans else 0) ∧ StB C' M3 ∧ M3 13 23 0 = code ∧ (code = 0 → M3 14 0 0 = ans)) gO_13 rfl (As := [iv (ci xs (i + 1)), iv (ci xs (i + 2))]) (st := []) (c_X11_children l (Q := (fun r3 M3 => (r3 = if code = 0 then ans else 0) ∧ StB C' M3 ∧ M3 13 23 0 = code ∧ (code = 0 → M3 14 0 0 = ans))) (hm1 (fun r3 M3 => (r3 = if code = 0 then ans else 0) ∧ StB C' M3 ∧ M3 13 23 0 = code ∧ (code = 0 → M3 14 0 0 = ans)) (fun M3 S e1 e2 => ⟨rfl, S, e1, e2⟩))) (cwV 2 X.2.2.2.1 gL_law_X11_children rfl rfl rfl (by decide +kernel) ⟨Nat.le_of_ble_eq_true rfl, Nat.le_of_ble_eq_true rfl⟩) rfl (Nat.le_of_ble_eq_true rfl) ⟨by omega, by omega⟩ rfl dL_law_915 (fun r3 M3 hw3 => ?_)
  obtain ⟨e3, S3, c3, o3⟩ := hw3
  rw [e3]
  exact V_widen (k1 := k + 8) (n1 := n + 60) (by omega) (by omega) (V_tailB X rfl hc (ite_r hb) c3 (fun z => by rw [if_pos z]; exact o3 z) dL_law_918 dL_law_920 dL_law_921 dL_law_924 dL_law_926 dL_law_931 dL_law_933 dL_law_936 dL_law_937 dL_law_938 dL_law_939 dL_law_941 dL_law_942 dL_law_943 dL_law_948 (by decide) hk (K C' M3 S3))
set_option maxHeartbeats 1000000 in
set_option maxRecDepth 20000 in
theorem law_12 (X : vC p s m args meth c D g A RL wsL_law cL_law 9) (hY : YX s) (hlt : l.stackTraces = false) (hX : XS s A b0 L xs) (hi : i + 6 ≤ L) (hS : StB C M) (hk : k + 8 ≤ room_1.cells ∧ n + 60 ≤ room_1.slots) (K : ∀ (C' : Nat → Nat → Int) (M' : Mem), StB C' M' → vV p l e room_1 s m args below meth c D g A a b 9 (k + 8) (n + 60) Q M' (lv5 a b b0 i) 2145 []) : vV p l e room_1 s m args below meth c D g A a b 9 k n Q M (lv5 a b b0 i) 951 [] := by
  obtain ⟨hW, hI, hC, hB⟩ := hS
  obtain ⟨code, ans, C', hc, hb, hq, hm⟩ := pk_i1 (ag_childAt hW (ci_r (xs := xs) (i := i + 1)) (ci_r (xs := xs) (i := i + 2)) (ci_r (xs := xs) (i := i + 3))) hI hC hB
  refine V_aload_n X dL_law_951 rfl (q := 1) rfl ?_
  refine V_cell X hX (i := i) (j := 1) (q0 := 0) (q4 := 4) rfl (by omega) rfl rfl dL_law_952 dL_law_953 dL_law_955 dL_law_956 dL_law_957 ?_
  refine V_cell X hX (i := i) (j := 2) (q0 := 0) (q4 := 4) rfl (by omega) rfl rfl dL_law_958 dL_law_959 dL_law_961 dL_law_962 dL_law_963 ?_
  refine V_cell X hX (i := i) (j := 3) (q0 := 0) (q4 := 4) rfl (by omega) rfl rfl dL_law_964 dL_law_965 dL_law_967 dL_law_968 dL_law_969 ?_
  refine V_aload_n X dL_law_970 rfl (q := 3) rfl ?_
  refine V_callH (As := [.ref (a 0), iv (ci xs (i + 1)), iv (ci xs (i + 2)), iv (ci xs (i + 3)), .ref (b 14 0)]) (st := []) X hY (QH code ans C C') (c_L_childAt l (Q := (QH code ans C C')) hlt hq) (vx_cwSW 5 X.2.2.2.1 gL_law_L_childAt rfl rfl rfl (by decide +kernel) ⟨Nat.le_of_ble_eq_true rfl, Nat.le_of_ble_eq_true rfl⟩) rfl (Nat.le_of_ble_eq_true rfl) ⟨by omega, by omega⟩ rfl dL_law_971 (fun r M1 hq1 => ?_)
  obtain ⟨er, hm1⟩ := hm M1 r hq1
  rw [er]
  refine V_istore (lv1 := lv6 a b b0 i code) X [1, 2, 3, 4, 5, 0] dL_law_974 (by decide) rfl ?_
  refine V_aload_n X dL_law_976 rfl (q := 2) rfl ?_
  refine V_cell X hX (i := i) (j := 1) (q0 := 0) (q4 := 4) rfl (by omega) rfl rfl dL_law_977 dL_law_978 dL_law_980 dL_law_981 dL_law_982 ?_
  refine V_cell X hX (i := i) (j := 2) (q0 := 0) (q4 := 4) rfl (by omega) rfl rfl dL_law_983 dL_law_984 dL_law_986 dL_law_987 dL_law_988 ?_
  refine V_cell X hX (i := i) (j := 3) (q0 := 0) (q4 := 4) rfl (by omega) rfl rfl dL_law_989 dL_law_990 dL_law_992 dL_law_993 dL_law_994 ?_
  refine V_callV_i X (fun r3 M3 => (r3 = if code = 0 then ans else 0) ∧ StB C' M3 ∧ M3 13 23 0 = code ∧ (code = 0 → M3 14 0 0 = ans)) gO_13 rfl (As := [iv (ci xs (i + 1)), iv (ci xs (i + 2)), iv (ci xs (i + 3))]) (st := []) (c_X11_childAt l (Q := (fun r3 M3 => (r3 = if code = 0 then ans else 0) ∧ StB C' M3 ∧ M3 13 23 0 = code ∧ (code = 0 → M3 14 0 0 = ans))) (hm1 (fun r3 M3 => (r3 = if code = 0 then ans else 0) ∧ StB C' M3 ∧ M3 13 23 0 = code ∧ (code = 0 → M3 14 0 0 = ans)) (fun M3 S e1 e2 => ⟨rfl, S, e1, e2⟩))) (cwV 3 X.2.2.2.1 gL_law_X11_childAt rfl rfl rfl (by decide +kernel) ⟨Nat.le_of_ble_eq_true rfl, Nat.le_of_ble_eq_true rfl⟩) rfl (Nat.le_of_ble_eq_true rfl) ⟨by omega, by omega⟩ rfl dL_law_995 (fun r3 M3 hw3 => ?_)
  obtain ⟨e3, S3, c3, o3⟩ := hw3
  rw [e3]
  exact V_widen (k1 := k + 8) (n1 := n + 60) (by omega) (by omega) (V_tailB X rfl hc (ite_r hb) c3 (fun z => by rw [if_pos z]; exact o3 z) dL_law_998 dL_law_1000 dL_law_1001 dL_law_1004 dL_law_1006 dL_law_1011 dL_law_1013 dL_law_1016 dL_law_1017 dL_law_1018 dL_law_1019 dL_law_1021 dL_law_1022 dL_law_1023 dL_law_1028 (by decide) hk (K C' M3 S3))
set_option maxHeartbeats 1000000 in
set_option maxRecDepth 20000 in
theorem law_13 (X : vC p s m args meth c D g A RL wsL_law cL_law 9) (hY : YX s) (hlt : l.stackTraces = false) (hX : XS s A b0 L xs) (hi : i + 6 ≤ L) (hS : StB C M) (hk : k + 8 ≤ room_1.cells ∧ n + 60 ≤ room_1.slots) (K : ∀ (C' : Nat → Nat → Int) (M' : Mem), StB C' M' → vV p l e room_1 s m args below meth c D g A a b 9 (k + 8) (n + 60) Q M' (lv5 a b b0 i) 2145 []) : vV p l e room_1 s m args below meth c D g A a b 9 k n Q M (lv5 a b b0 i) 1031 [] := by
  obtain ⟨hW, hI, hC, hB⟩ := hS
  obtain ⟨code, ans, C', hc, hb, hq, hm⟩ := pk_i1 (ag_inPreorder hW (ci_r (xs := xs) (i := i + 1)) (ci_r (xs := xs) (i := i + 2))) hI hC hB
  refine V_aload_n X dL_law_1031 rfl (q := 1) rfl ?_
  refine V_cell X hX (i := i) (j := 1) (q0 := 0) (q4 := 4) rfl (by omega) rfl rfl dL_law_1032 dL_law_1033 dL_law_1035 dL_law_1036 dL_law_1037 ?_
  refine V_cell X hX (i := i) (j := 2) (q0 := 0) (q4 := 4) rfl (by omega) rfl rfl dL_law_1038 dL_law_1039 dL_law_1041 dL_law_1042 dL_law_1043 ?_
  refine V_aload_n X dL_law_1044 rfl (q := 3) rfl ?_
  refine V_callH (As := [.ref (a 0), iv (ci xs (i + 1)), iv (ci xs (i + 2)), .ref (b 14 0)]) (st := []) X hY (QH code ans C C') (c_L_inPreorder l (Q := (QH code ans C C')) hlt hq) (vx_cwSW 4 X.2.2.2.1 gL_law_L_inPreorder rfl rfl rfl (by decide +kernel) ⟨Nat.le_of_ble_eq_true rfl, Nat.le_of_ble_eq_true rfl⟩) rfl (Nat.le_of_ble_eq_true rfl) ⟨by omega, by omega⟩ rfl dL_law_1045 (fun r M1 hq1 => ?_)
  obtain ⟨er, hm1⟩ := hm M1 r hq1
  rw [er]
  refine V_istore (lv1 := lv6 a b b0 i code) X [1, 2, 3, 4, 5, 0] dL_law_1048 (by decide) rfl ?_
  refine V_aload_n X dL_law_1050 rfl (q := 2) rfl ?_
  refine V_cell X hX (i := i) (j := 1) (q0 := 0) (q4 := 4) rfl (by omega) rfl rfl dL_law_1051 dL_law_1052 dL_law_1054 dL_law_1055 dL_law_1056 ?_
  refine V_cell X hX (i := i) (j := 2) (q0 := 0) (q4 := 4) rfl (by omega) rfl rfl dL_law_1057 dL_law_1058 dL_law_1060 dL_law_1061 dL_law_1062 ?_
  refine V_callV_i X (fun r3 M3 => (r3 = if code = 0 then ans else 0) ∧ StB C' M3 ∧ M3 13 23 0 = code ∧ (code = 0 → M3 14 0 0 = ans)) gO_13 rfl (As := [iv (ci xs (i + 1)), iv (ci xs (i + 2))]) (st := []) (c_X11_inPreorder l (Q := (fun r3 M3 => (r3 = if code = 0 then ans else 0) ∧ StB C' M3 ∧ M3 13 23 0 = code ∧ (code = 0 → M3 14 0 0 = ans))) (hm1 (fun r3 M3 => (r3 = if code = 0 then ans else 0) ∧ StB C' M3 ∧ M3 13 23 0 = code ∧ (code = 0 → M3 14 0 0 = ans)) (fun M3 S e1 e2 => ⟨rfl, S, e1, e2⟩))) (cwV 2 X.2.2.2.1 gL_law_X11_inPreorder rfl rfl rfl (by decide +kernel) ⟨Nat.le_of_ble_eq_true rfl, Nat.le_of_ble_eq_true rfl⟩) rfl (Nat.le_of_ble_eq_true rfl) ⟨by omega, by omega⟩ rfl dL_law_1063 (fun r3 M3 hw3 => ?_)
  obtain ⟨e3, S3, c3, o3⟩ := hw3
  rw [e3]
  exact V_widen (k1 := k + 8) (n1 := n + 60) (by omega) (by omega) (V_tailB X rfl hc (ite_r hb) c3 (fun z => by rw [if_pos z]; exact o3 z) dL_law_1066 dL_law_1068 dL_law_1069 dL_law_1072 dL_law_1074 dL_law_1079 dL_law_1081 dL_law_1084 dL_law_1085 dL_law_1086 dL_law_1087 dL_law_1089 dL_law_1090 dL_law_1091 dL_law_1096 (by decide) hk (K C' M3 S3))
end CASES
