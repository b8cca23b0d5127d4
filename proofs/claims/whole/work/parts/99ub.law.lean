/-! the law, its cases -/
set_option maxHeartbeats 4000000 in
set_option maxRecDepth 100000 in
theorem lwc_count {p : Program} {l : Launch} {e : Env} {s : State} {m : MethodId} {below : List Frame} {meth : Method} {c : Code} {Q : State → Prop} {E : uE} {S : uS} {b L : Nat} {xs : Nat → Int32} (C : lC E S b L xs p s m c) (i : Nat) (hi : i + 7 ≤ L) {M : uM} (A : rAll M) {H : Heap} {locs : List Loc} {ls : Array Slot} (h : uH E M s H locs) (hl : lv_has ls 4 [(3, .int (nI i)), (0, .ref b), (1, .ref (E.2.1 0)), (2, .ref (E.2.1 251))])
    (kk : ∀ (M' : uM) (H : Heap) (locs : List Loc), rAll M' → uH E M' s H locs → W p l e room_1 s m #[Value.ref b] below meth c H locs 263 4733 Q (F0 m 1284 ls [])) : W p l e room_1 s m #[Value.ref b] below meth c H locs 263 4733 Q (F0 m 430 ls []) := by
  have hx := C.1.1.1
  have hb := C.1.1.2.1
  have hown := C.1.1.2.2.2.1
  have hts := C.1.1.2.2.2.2
  have hI := C.1.2.2.2
  obtain ⟨Q1, hM1, K1⟩ := z6_count l E hI M A ((xs (i + 1)))
  refine lv_aload_n hx hb dL_law_430 rfl (lv_at hl 2 rfl) ?_
  refine lv_aload_n hx hb dL_law_431 rfl (lv_at hl 1 rfl) ?_
  refine lv_iload_n hx hb dL_law_432 rfl (lv_at hl 0 rfl) ?_
  refine lv_iconst (v := 1) hx hb dL_law_433 (by decide) ?_
  refine lv_iadd hx hb dL_law_434 ?_
  refine lr_sld C h (i + 1) (by omega) (nI_add i 1) dL_law_435 ?_
  refine lr_call C h (k := 0) (As := [.int (xs (i + 1))]) (rest := []) hM1 (cwV 1 hts gL_law_X6_count rfl rfl rfl (by decide +kernel) ⟨Nat.le_of_ble_eq_true rfl, Nat.le_of_ble_eq_true rfl⟩) (by decide) (uc_0 E _) (T := TX6) (N := 6) rfl rfl hl.1 rfl (Nat.le_of_ble_eq_true rfl) dL_law_436 (fun r1 M1 H locs hw1 h => ?_)
  obtain ⟨Q2, hM2, K2⟩ := K1 r1 M1 hw1
  refine lv_aload_n hx hb dL_law_439 rfl (lv_at hl 3 rfl) ?_
  refine lv_aload_n hx hb dL_law_440 rfl (lv_at hl 1 rfl) ?_
  refine lv_iload_n hx hb dL_law_441 rfl (lv_at hl 0 rfl) ?_
  refine lv_iconst (v := 1) hx hb dL_law_442 (by decide) ?_
  refine lv_iadd hx hb dL_law_443 ?_
  refine lr_sld C h (i + 1) (by omega) (nI_add i 1) dL_law_444 ?_
  refine lr_call C h (k := 251) (As := [.int (xs (i + 1))]) (rest := [.int r1]) hM2 (cwV 1 hts gL_law_X7_count rfl rfl rfl (by decide +kernel) ⟨Nat.le_of_ble_eq_true rfl, Nat.le_of_ble_eq_true rfl⟩) (by decide) (uc_251 E _) (T := TX7) (N := 17) rfl rfl hl.1 rfl (Nat.le_of_ble_eq_true rfl) dL_law_445 (fun r2 M2 H locs hw2 h => ?_)
  obtain ⟨er, A2⟩ := K2 r2 M2 hw2
  exact lv_icmp_eq (tgt := 1284) hx hb dL_law_448 (by decide) (fun _ => kk M2 H locs A2 h) (fun z => absurd er z)
set_option maxHeartbeats 4000000 in
set_option maxRecDepth 100000 in
theorem lwc_worn {p : Program} {l : Launch} {e : Env} {s : State} {m : MethodId} {below : List Frame} {meth : Method} {c : Code} {Q : State → Prop} {E : uE} {S : uS} {b L : Nat} {xs : Nat → Int32} (C : lC E S b L xs p s m c) (i : Nat) (hi : i + 7 ≤ L) {M : uM} (A : rAll M) {H : Heap} {locs : List Loc} {ls : Array Slot} (h : uH E M s H locs) (hl : lv_has ls 4 [(3, .int (nI i)), (0, .ref b), (1, .ref (E.2.1 0)), (2, .ref (E.2.1 251))])
    (kk : ∀ (M' : uM) (H : Heap) (locs : List Loc), rAll M' → uH E M' s H locs → W p l e room_1 s m #[Value.ref b] below meth c H locs 263 4733 Q (F0 m 1284 ls [])) : W p l e room_1 s m #[Value.ref b] below meth c H locs 263 4733 Q (F0 m 453 ls []) := by
  have hx := C.1.1.1
  have hb := C.1.1.2.1
  have hown := C.1.1.2.2.2.1
  have hts := C.1.1.2.2.2.2
  have hI := C.1.2.2.2
  obtain ⟨Q1, hM1, K1⟩ := z6_worn l E hI M A ((xs (i + 1))) ((xs (i + 2)))
  refine lv_aload_n hx hb dL_law_453 rfl (lv_at hl 2 rfl) ?_
  refine lv_aload_n hx hb dL_law_454 rfl (lv_at hl 1 rfl) ?_
  refine lv_iload_n hx hb dL_law_455 rfl (lv_at hl 0 rfl) ?_
  refine lv_iconst (v := 1) hx hb dL_law_456 (by decide) ?_
  refine lv_iadd hx hb dL_law_457 ?_
  refine lr_sld C h (i + 1) (by omega) (nI_add i 1) dL_law_458 ?_
  refine lv_aload_n hx hb dL_law_459 rfl (lv_at hl 1 rfl) ?_
  refine lv_iload_n hx hb dL_law_460 rfl (lv_at hl 0 rfl) ?_
  refine lv_iconst (v := 2) hx hb dL_law_461 (by decide) ?_
  refine lv_iadd hx hb dL_law_462 ?_
  refine lr_sld C h (i + 2) (by omega) (nI_add i 2) dL_law_463 ?_
  refine lr_call C h (k := 0) (As := [.int (xs (i + 1)), .int (xs (i + 2))]) (rest := []) hM1 (cwV 2 hts gL_law_X6_worn rfl rfl rfl (by decide +kernel) ⟨Nat.le_of_ble_eq_true rfl, Nat.le_of_ble_eq_true rfl⟩) (by decide) (uc_0 E _) (T := TX6) (N := 6) rfl rfl hl.1 rfl (Nat.le_of_ble_eq_true rfl) dL_law_464 (fun r1 M1 H locs hw1 h => ?_)
  obtain ⟨Q2, hM2, K2⟩ := K1 r1 M1 hw1
  refine lv_aload_n hx hb dL_law_467 rfl (lv_at hl 3 rfl) ?_
  refine lv_aload_n hx hb dL_law_468 rfl (lv_at hl 1 rfl) ?_
  refine lv_iload_n hx hb dL_law_469 rfl (lv_at hl 0 rfl) ?_
  refine lv_iconst (v := 1) hx hb dL_law_470 (by decide) ?_
  refine lv_iadd hx hb dL_law_471 ?_
  refine lr_sld C h (i + 1) (by omega) (nI_add i 1) dL_law_472 ?_
  refine lv_aload_n hx hb dL_law_473 rfl (lv_at hl 1 rfl) ?_
  refine lv_iload_n hx hb dL_law_474 rfl (lv_at hl 0 rfl) ?_
  refine lv_iconst (v := 2) hx hb dL_law_475 (by decide) ?_
  refine lv_iadd hx hb dL_law_476 ?_
  refine lr_sld C h (i + 2) (by omega) (nI_add i 2) dL_law_477 ?_
  refine lr_call C h (k := 251) (As := [.int (xs (i + 1)), .int (xs (i + 2))]) (rest := [.int r1]) hM2 (cwV 2 hts gL_law_X7_worn rfl rfl rfl (by decide +kernel) ⟨Nat.le_of_ble_eq_true rfl, Nat.le_of_ble_eq_true rfl⟩) (by decide) (uc_251 E _) (T := TX7) (N := 17) rfl rfl hl.1 rfl (Nat.le_of_ble_eq_true rfl) dL_law_478 (fun r2 M2 H locs hw2 h => ?_)
  obtain ⟨er, A2⟩ := K2 r2 M2 hw2
  exact lv_icmp_eq (tgt := 1284) hx hb dL_law_481 (by decide) (fun _ => kk M2 H locs A2 h) (fun z => absurd er z)
set_option maxHeartbeats 4000000 in
set_option maxRecDepth 100000 in
theorem lwc_ask {p : Program} {l : Launch} {e : Env} {s : State} {m : MethodId} {below : List Frame} {meth : Method} {c : Code} {Q : State → Prop} {E : uE} {S : uS} {b L : Nat} {xs : Nat → Int32} (C : lC E S b L xs p s m c) (i : Nat) (hi : i + 7 ≤ L) {M : uM} (A : rAll M) {H : Heap} {locs : List Loc} {ls : Array Slot} (h : uH E M s H locs) (hl : lv_has ls 4 [(3, .int (nI i)), (0, .ref b), (1, .ref (E.2.1 0)), (2, .ref (E.2.1 251))])
    (kk : ∀ (M' : uM) (H : Heap) (locs : List Loc), rAll M' → uH E M' s H locs → W p l e room_1 s m #[Value.ref b] below meth c H locs 263 4733 Q (F0 m 1284 ls [])) : W p l e room_1 s m #[Value.ref b] below meth c H locs 263 4733 Q (F0 m 486 ls []) := by
  have hx := C.1.1.1
  have hb := C.1.1.2.1
  have hown := C.1.1.2.2.2.1
  have hts := C.1.1.2.2.2.2
  have hI := C.1.2.2.2
  obtain ⟨Q1, hM1, K1⟩ := z6_ask l E hI M A ((xs (i + 1))) ((xs (i + 2)))
  refine lv_aload_n hx hb dL_law_486 rfl (lv_at hl 2 rfl) ?_
  refine lv_aload_n hx hb dL_law_487 rfl (lv_at hl 1 rfl) ?_
  refine lv_iload_n hx hb dL_law_488 rfl (lv_at hl 0 rfl) ?_
  refine lv_iconst (v := 1) hx hb dL_law_489 (by decide) ?_
  refine lv_iadd hx hb dL_law_490 ?_
  refine lr_sld C h (i + 1) (by omega) (nI_add i 1) dL_law_491 ?_
  refine lv_aload_n hx hb dL_law_492 rfl (lv_at hl 1 rfl) ?_
  refine lv_iload_n hx hb dL_law_493 rfl (lv_at hl 0 rfl) ?_
  refine lv_iconst (v := 2) hx hb dL_law_494 (by decide) ?_
  refine lv_iadd hx hb dL_law_495 ?_
  refine lr_sld C h (i + 2) (by omega) (nI_add i 2) dL_law_496 ?_
  refine lr_call C h (k := 0) (As := [.int (xs (i + 1)), .int (xs (i + 2))]) (rest := []) hM1 (cwV 2 hts gL_law_X6_ask rfl rfl rfl (by decide +kernel) ⟨Nat.le_of_ble_eq_true rfl, Nat.le_of_ble_eq_true rfl⟩) (by decide) (uc_0 E _) (T := TX6) (N := 6) rfl rfl hl.1 rfl (Nat.le_of_ble_eq_true rfl) dL_law_497 (fun r1 M1 H locs hw1 h => ?_)
  obtain ⟨Q2, hM2, K2⟩ := K1 r1 M1 hw1
  refine lv_aload_n hx hb dL_law_500 rfl (lv_at hl 3 rfl) ?_
  refine lv_aload_n hx hb dL_law_501 rfl (lv_at hl 1 rfl) ?_
  refine lv_iload_n hx hb dL_law_502 rfl (lv_at hl 0 rfl) ?_
  refine lv_iconst (v := 1) hx hb dL_law_503 (by decide) ?_
  refine lv_iadd hx hb dL_law_504 ?_
  refine lr_sld C h (i + 1) (by omega) (nI_add i 1) dL_law_505 ?_
  refine lv_aload_n hx hb dL_law_506 rfl (lv_at hl 1 rfl) ?_
  refine lv_iload_n hx hb dL_law_507 rfl (lv_at hl 0 rfl) ?_
  refine lv_iconst (v := 2) hx hb dL_law_508 (by decide) ?_
  refine lv_iadd hx hb dL_law_509 ?_
  refine lr_sld C h (i + 2) (by omega) (nI_add i 2) dL_law_510 ?_
  refine lr_call C h (k := 251) (As := [.int (xs (i + 1)), .int (xs (i + 2))]) (rest := [.int r1]) hM2 (cwV 2 hts gL_law_X7_ask rfl rfl rfl (by decide +kernel) ⟨Nat.le_of_ble_eq_true rfl, Nat.le_of_ble_eq_true rfl⟩) (by decide) (uc_251 E _) (T := TX7) (N := 17) rfl rfl hl.1 rfl (Nat.le_of_ble_eq_true rfl) dL_law_511 (fun r2 M2 H locs hw2 h => ?_)
  obtain ⟨er, A2⟩ := K2 r2 M2 hw2
  exact lv_icmp_eq (tgt := 1284) hx hb dL_law_514 (by decide) (fun _ => kk M2 H locs A2 h) (fun z => absurd er z)
set_option maxHeartbeats 4000000 in
set_option maxRecDepth 100000 in
theorem lwc_said {p : Program} {l : Launch} {e : Env} {s : State} {m : MethodId} {below : List Frame} {meth : Method} {c : Code} {Q : State → Prop} {E : uE} {S : uS} {b L : Nat} {xs : Nat → Int32} (C : lC E S b L xs p s m c) (i : Nat) (hi : i + 7 ≤ L) {M : uM} (A : rAll M) {H : Heap} {locs : List Loc} {ls : Array Slot} (h : uH E M s H locs) (hl : lv_has ls 4 [(3, .int (nI i)), (0, .ref b), (1, .ref (E.2.1 0)), (2, .ref (E.2.1 251))])
    (kk : ∀ (M' : uM) (H : Heap) (locs : List Loc), rAll M' → uH E M' s H locs → W p l e room_1 s m #[Value.ref b] below meth c H locs 263 4733 Q (F0 m 1284 ls [])) : W p l e room_1 s m #[Value.ref b] below meth c H locs 263 4733 Q (F0 m 519 ls []) := by
  have hx := C.1.1.1
  have hb := C.1.1.2.1
  have hown := C.1.1.2.2.2.1
  have hts := C.1.1.2.2.2.2
  have hI := C.1.2.2.2
  obtain ⟨Q1, hM1, K1⟩ := z6_said l E hI M A ((xs (i + 1))) ((xs (i + 2))) ((xs (i + 3)))
  refine lv_aload_n hx hb dL_law_519 rfl (lv_at hl 2 rfl) ?_
  refine lv_aload_n hx hb dL_law_520 rfl (lv_at hl 1 rfl) ?_
  refine lv_iload_n hx hb dL_law_521 rfl (lv_at hl 0 rfl) ?_
  refine lv_iconst (v := 1) hx hb dL_law_522 (by decide) ?_
  refine lv_iadd hx hb dL_law_523 ?_
  refine lr_sld C h (i + 1) (by omega) (nI_add i 1) dL_law_524 ?_
  refine lv_aload_n hx hb dL_law_525 rfl (lv_at hl 1 rfl) ?_
  refine lv_iload_n hx hb dL_law_526 rfl (lv_at hl 0 rfl) ?_
  refine lv_iconst (v := 2) hx hb dL_law_527 (by decide) ?_
  refine lv_iadd hx hb dL_law_528 ?_
  refine lr_sld C h (i + 2) (by omega) (nI_add i 2) dL_law_529 ?_
  refine lv_aload_n hx hb dL_law_530 rfl (lv_at hl 1 rfl) ?_
  refine lv_iload_n hx hb dL_law_531 rfl (lv_at hl 0 rfl) ?_
  refine lv_iconst (v := 3) hx hb dL_law_532 (by decide) ?_
  refine lv_iadd hx hb dL_law_533 ?_
  refine lr_sld C h (i + 3) (by omega) (nI_add i 3) dL_law_534 ?_
  refine lr_call C h (k := 0) (As := [.int (xs (i + 1)), .int (xs (i + 2)), .int (xs (i + 3))]) (rest := []) hM1 (cwV 3 hts gL_law_X6_said rfl rfl rfl (by decide +kernel) ⟨Nat.le_of_ble_eq_true rfl, Nat.le_of_ble_eq_true rfl⟩) (by decide) (uc_0 E _) (T := TX6) (N := 6) rfl rfl hl.1 rfl (Nat.le_of_ble_eq_true rfl) dL_law_535 (fun r1 M1 H locs hw1 h => ?_)
  obtain ⟨Q2, hM2, K2⟩ := K1 r1 M1 hw1
  refine lv_aload_n hx hb dL_law_538 rfl (lv_at hl 3 rfl) ?_
  refine lv_aload_n hx hb dL_law_539 rfl (lv_at hl 1 rfl) ?_
  refine lv_iload_n hx hb dL_law_540 rfl (lv_at hl 0 rfl) ?_
  refine lv_iconst (v := 1) hx hb dL_law_541 (by decide) ?_
  refine lv_iadd hx hb dL_law_542 ?_
  refine lr_sld C h (i + 1) (by omega) (nI_add i 1) dL_law_543 ?_
  refine lv_aload_n hx hb dL_law_544 rfl (lv_at hl 1 rfl) ?_
  refine lv_iload_n hx hb dL_law_545 rfl (lv_at hl 0 rfl) ?_
  refine lv_iconst (v := 2) hx hb dL_law_546 (by decide) ?_
  refine lv_iadd hx hb dL_law_547 ?_
  refine lr_sld C h (i + 2) (by omega) (nI_add i 2) dL_law_548 ?_
  refine lv_aload_n hx hb dL_law_549 rfl (lv_at hl 1 rfl) ?_
  refine lv_iload_n hx hb dL_law_550 rfl (lv_at hl 0 rfl) ?_
  refine lv_iconst (v := 3) hx hb dL_law_551 (by decide) ?_
  refine lv_iadd hx hb dL_law_552 ?_
  refine lr_sld C h (i + 3) (by omega) (nI_add i 3) dL_law_553 ?_
  refine lr_call C h (k := 251) (As := [.int (xs (i + 1)), .int (xs (i + 2)), .int (xs (i + 3))]) (rest := [.int r1]) hM2 (cwV 3 hts gL_law_X7_said rfl rfl rfl (by decide +kernel) ⟨Nat.le_of_ble_eq_true rfl, Nat.le_of_ble_eq_true rfl⟩) (by decide) (uc_251 E _) (T := TX7) (N := 17) rfl rfl hl.1 rfl (Nat.le_of_ble_eq_true rfl) dL_law_554 (fun r2 M2 H locs hw2 h => ?_)
  obtain ⟨er, A2⟩ := K2 r2 M2 hw2
  exact lv_icmp_eq (tgt := 1284) hx hb dL_law_557 (by decide) (fun _ => kk M2 H locs A2 h) (fun z => absurd er z)
set_option maxHeartbeats 4000000 in
set_option maxRecDepth 100000 in
theorem lwc_teach {p : Program} {l : Launch} {e : Env} {s : State} {m : MethodId} {below : List Frame} {meth : Method} {c : Code} {Q : State → Prop} {E : uE} {S : uS} {b L : Nat} {xs : Nat → Int32} (C : lC E S b L xs p s m c) (i : Nat) (hi : i + 7 ≤ L) {M : uM} (A : rAll M) {H : Heap} {locs : List Loc} {ls : Array Slot} (h : uH E M s H locs) (hl : lv_has ls 4 [(3, .int (nI i)), (0, .ref b), (1, .ref (E.2.1 0)), (2, .ref (E.2.1 251))])
    (kk : ∀ (M' : uM) (H : Heap) (locs : List Loc), rAll M' → uH E M' s H locs → W p l e room_1 s m #[Value.ref b] below meth c H locs 263 4733 Q (F0 m 1284 ls [])) : W p l e room_1 s m #[Value.ref b] below meth c H locs 263 4733 Q (F0 m 562 ls []) := by
  have hx := C.1.1.1
  have hb := C.1.1.2.1
  have hown := C.1.1.2.2.2.1
  have hts := C.1.1.2.2.2.2
  have hI := C.1.2.2.2
  obtain ⟨Q1, hM1, K1⟩ := z6_teach l E hI M A ((xs (i + 1))) ((xs (i + 2)))
  refine lv_aload_n hx hb dL_law_562 rfl (lv_at hl 2 rfl) ?_
  refine lv_aload_n hx hb dL_law_563 rfl (lv_at hl 1 rfl) ?_
  refine lv_iload_n hx hb dL_law_564 rfl (lv_at hl 0 rfl) ?_
  refine lv_iconst (v := 1) hx hb dL_law_565 (by decide) ?_
  refine lv_iadd hx hb dL_law_566 ?_
  refine lr_sld C h (i + 1) (by omega) (nI_add i 1) dL_law_567 ?_
  refine lv_aload_n hx hb dL_law_568 rfl (lv_at hl 1 rfl) ?_
  refine lv_iload_n hx hb dL_law_569 rfl (lv_at hl 0 rfl) ?_
  refine lv_iconst (v := 2) hx hb dL_law_570 (by decide) ?_
  refine lv_iadd hx hb dL_law_571 ?_
  refine lr_sld C h (i + 2) (by omega) (nI_add i 2) dL_law_572 ?_
  refine lr_call C h (k := 0) (As := [.int (xs (i + 1)), .int (xs (i + 2))]) (rest := []) hM1 (cwV 2 hts gL_law_X6_teach rfl rfl rfl (by decide +kernel) ⟨Nat.le_of_ble_eq_true rfl, Nat.le_of_ble_eq_true rfl⟩) (by decide) (uc_0 E _) (T := TX6) (N := 6) rfl rfl hl.1 rfl (Nat.le_of_ble_eq_true rfl) dL_law_573 (fun r1 M1 H locs hw1 h => ?_)
  obtain ⟨Q2, hM2, K2⟩ := K1 r1 M1 hw1
  refine lv_aload_n hx hb dL_law_576 rfl (lv_at hl 3 rfl) ?_
  refine lv_aload_n hx hb dL_law_577 rfl (lv_at hl 1 rfl) ?_
  refine lv_iload_n hx hb dL_law_578 rfl (lv_at hl 0 rfl) ?_
  refine lv_iconst (v := 1) hx hb dL_law_579 (by decide) ?_
  refine lv_iadd hx hb dL_law_580 ?_
  refine lr_sld C h (i + 1) (by omega) (nI_add i 1) dL_law_581 ?_
  refine lv_aload_n hx hb dL_law_582 rfl (lv_at hl 1 rfl) ?_
  refine lv_iload_n hx hb dL_law_583 rfl (lv_at hl 0 rfl) ?_
  refine lv_iconst (v := 2) hx hb dL_law_584 (by decide) ?_
  refine lv_iadd hx hb dL_law_585 ?_
  refine lr_sld C h (i + 2) (by omega) (nI_add i 2) dL_law_586 ?_
  refine lr_call C h (k := 251) (As := [.int (xs (i + 1)), .int (xs (i + 2))]) (rest := [.int r1]) hM2 (cwV 2 hts gL_law_X7_teach rfl rfl rfl (by decide +kernel) ⟨Nat.le_of_ble_eq_true rfl, Nat.le_of_ble_eq_true rfl⟩) (by decide) (uc_251 E _) (T := TX7) (N := 17) rfl rfl hl.1 rfl (Nat.le_of_ble_eq_true rfl) dL_law_587 (fun r2 M2 H locs hw2 h => ?_)
  obtain ⟨er, A2⟩ := K2 r2 M2 hw2
  exact lv_icmp_eq (tgt := 1284) hx hb dL_law_590 (by decide) (fun _ => kk M2 H locs A2 h) (fun z => absurd er z)
set_option maxHeartbeats 4000000 in
set_option maxRecDepth 100000 in
theorem lwc_rest {p : Program} {l : Launch} {e : Env} {s : State} {m : MethodId} {below : List Frame} {meth : Method} {c : Code} {Q : State → Prop} {E : uE} {S : uS} {b L : Nat} {xs : Nat → Int32} (C : lC E S b L xs p s m c) (i : Nat) (hi : i + 7 ≤ L) {M : uM} (A : rAll M) {H : Heap} {locs : List Loc} {ls : Array Slot} (h : uH E M s H locs) (hl : lv_has ls 4 [(3, .int (nI i)), (0, .ref b), (1, .ref (E.2.1 0)), (2, .ref (E.2.1 251))])
    (kk : ∀ (M' : uM) (H : Heap) (locs : List Loc), rAll M' → uH E M' s H locs → W p l e room_1 s m #[Value.ref b] below meth c H locs 263 4733 Q (F0 m 1284 ls [])) : W p l e room_1 s m #[Value.ref b] below meth c H locs 263 4733 Q (F0 m 595 ls []) := by
  have hx := C.1.1.1
  have hb := C.1.1.2.1
  have hown := C.1.1.2.2.2.1
  have hts := C.1.1.2.2.2.2
  have hI := C.1.2.2.2
  obtain ⟨Q1, hM1, K1⟩ := z6_rest l E hI M A 
  refine lv_aload_n hx hb dL_law_595 rfl (lv_at hl 2 rfl) ?_
  refine lr_call C h (k := 0) (As := []) (rest := []) hM1 (cwV 0 hts gL_law_X6_rest rfl rfl rfl (by decide +kernel) ⟨Nat.le_of_ble_eq_true rfl, Nat.le_of_ble_eq_true rfl⟩) (by decide) (uc_0 E _) (T := TX6) (N := 6) rfl rfl hl.1 rfl (Nat.le_of_ble_eq_true rfl) dL_law_596 (fun r1 M1 H locs hw1 h => ?_)
  obtain ⟨Q2, hM2, K2⟩ := K1 r1 M1 hw1
  refine lv_aload_n hx hb dL_law_599 rfl (lv_at hl 3 rfl) ?_
  refine lr_call C h (k := 251) (As := []) (rest := [.int r1]) hM2 (cwV 0 hts gL_law_X7_rest rfl rfl rfl (by decide +kernel) ⟨Nat.le_of_ble_eq_true rfl, Nat.le_of_ble_eq_true rfl⟩) (by decide) (uc_251 E _) (T := TX7) (N := 17) rfl rfl hl.1 rfl (Nat.le_of_ble_eq_true rfl) dL_law_600 (fun r2 M2 H locs hw2 h => ?_)
  obtain ⟨er, A2⟩ := K2 r2 M2 hw2
  exact lv_icmp_eq (tgt := 1284) hx hb dL_law_603 (by decide) (fun _ => kk M2 H locs A2 h) (fun z => absurd er z)
set_option maxHeartbeats 4000000 in
set_option maxRecDepth 100000 in
theorem lwc_undo {p : Program} {l : Launch} {e : Env} {s : State} {m : MethodId} {below : List Frame} {meth : Method} {c : Code} {Q : State → Prop} {E : uE} {S : uS} {b L : Nat} {xs : Nat → Int32} (C : lC E S b L xs p s m c) (i : Nat) (hi : i + 7 ≤ L) {M : uM} (A : rAll M) {H : Heap} {locs : List Loc} {ls : Array Slot} (h : uH E M s H locs) (hl : lv_has ls 4 [(3, .int (nI i)), (0, .ref b), (1, .ref (E.2.1 0)), (2, .ref (E.2.1 251))])
    (kk : ∀ (M' : uM) (H : Heap) (locs : List Loc), rAll M' → uH E M' s H locs → W p l e room_1 s m #[Value.ref b] below meth c H locs 263 4733 Q (F0 m 1284 ls [])) : W p l e room_1 s m #[Value.ref b] below meth c H locs 263 4733 Q (F0 m 608 ls []) := by
  have hx := C.1.1.1
  have hb := C.1.1.2.1
  have hown := C.1.1.2.2.2.1
  have hts := C.1.1.2.2.2.2
  have hI := C.1.2.2.2
  obtain ⟨Q1, hM1, K1⟩ := z6_undo l E hI M A 
  refine lv_aload_n hx hb dL_law_608 rfl (lv_at hl 2 rfl) ?_
  refine lr_call C h (k := 0) (As := []) (rest := []) hM1 (cwV 0 hts gL_law_X6_undo rfl rfl rfl (by decide +kernel) ⟨Nat.le_of_ble_eq_true rfl, Nat.le_of_ble_eq_true rfl⟩) (by decide) (uc_0 E _) (T := TX6) (N := 6) rfl rfl hl.1 rfl (Nat.le_of_ble_eq_true rfl) dL_law_609 (fun r1 M1 H locs hw1 h => ?_)
  obtain ⟨Q2, hM2, K2⟩ := K1 r1 M1 hw1
  refine lv_aload_n hx hb dL_law_612 rfl (lv_at hl 3 rfl) ?_
  refine lr_call C h (k := 251) (As := []) (rest := [.int r1]) hM2 (cwV 0 hts gL_law_X7_undo rfl rfl rfl (by decide +kernel) ⟨Nat.le_of_ble_eq_true rfl, Nat.le_of_ble_eq_true rfl⟩) (by decide) (uc_251 E _) (T := TX7) (N := 17) rfl rfl hl.1 rfl (Nat.le_of_ble_eq_true rfl) dL_law_613 (fun r2 M2 H locs hw2 h => ?_)
  obtain ⟨er, A2⟩ := K2 r2 M2 hw2
  exact lv_icmp_eq (tgt := 1284) hx hb dL_law_616 (by decide) (fun _ => kk M2 H locs A2 h) (fun z => absurd er z)
set_option maxHeartbeats 4000000 in
set_option maxRecDepth 100000 in
theorem lwc_seed {p : Program} {l : Launch} {e : Env} {s : State} {m : MethodId} {below : List Frame} {meth : Method} {c : Code} {Q : State → Prop} {E : uE} {S : uS} {b L : Nat} {xs : Nat → Int32} (C : lC E S b L xs p s m c) (i : Nat) (hi : i + 7 ≤ L) {M : uM} (A : rAll M) {H : Heap} {locs : List Loc} {ls : Array Slot} (h : uH E M s H locs) (hl : lv_has ls 4 [(3, .int (nI i)), (0, .ref b), (1, .ref (E.2.1 0)), (2, .ref (E.2.1 251))])
    (kk : ∀ (M' : uM) (H : Heap) (locs : List Loc), rAll M' → uH E M' s H locs → W p l e room_1 s m #[Value.ref b] below meth c H locs 263 4733 Q (F0 m 1284 ls [])) : W p l e room_1 s m #[Value.ref b] below meth c H locs 263 4733 Q (F0 m 621 ls []) := by
  have hx := C.1.1.1
  have hb := C.1.1.2.1
  have hown := C.1.1.2.2.2.1
  have hts := C.1.1.2.2.2.2
  have hI := C.1.2.2.2
  obtain ⟨Q1, hM1, K1⟩ := z6_seed l E hI M A ((xs (i + 1)))
  refine lv_aload_n hx hb dL_law_621 rfl (lv_at hl 2 rfl) ?_
  refine lv_aload_n hx hb dL_law_622 rfl (lv_at hl 1 rfl) ?_
  refine lv_iload_n hx hb dL_law_623 rfl (lv_at hl 0 rfl) ?_
  refine lv_iconst (v := 1) hx hb dL_law_624 (by decide) ?_
  refine lv_iadd hx hb dL_law_625 ?_
  refine lr_sld C h (i + 1) (by omega) (nI_add i 1) dL_law_626 ?_
  refine lr_call C h (k := 0) (As := [.int (xs (i + 1))]) (rest := []) hM1 (cwV 1 hts gL_law_X6_seed rfl rfl rfl (by decide +kernel) ⟨Nat.le_of_ble_eq_true rfl, Nat.le_of_ble_eq_true rfl⟩) (by decide) (uc_0 E _) (T := TX6) (N := 6) rfl rfl hl.1 rfl (Nat.le_of_ble_eq_true rfl) dL_law_627 (fun r1 M1 H locs hw1 h => ?_)
  obtain ⟨Q2, hM2, K2⟩ := K1 r1 M1 hw1
  refine lv_aload_n hx hb dL_law_630 rfl (lv_at hl 3 rfl) ?_
  refine lv_aload_n hx hb dL_law_631 rfl (lv_at hl 1 rfl) ?_
  refine lv_iload_n hx hb dL_law_632 rfl (lv_at hl 0 rfl) ?_
  refine lv_iconst (v := 1) hx hb dL_law_633 (by decide) ?_
  refine lv_iadd hx hb dL_law_634 ?_
  refine lr_sld C h (i + 1) (by omega) (nI_add i 1) dL_law_635 ?_
  refine lr_call C h (k := 251) (As := [.int (xs (i + 1))]) (rest := [.int r1]) hM2 (cwV 1 hts gL_law_X7_seed rfl rfl rfl (by decide +kernel) ⟨Nat.le_of_ble_eq_true rfl, Nat.le_of_ble_eq_true rfl⟩) (by decide) (uc_251 E _) (T := TX7) (N := 17) rfl rfl hl.1 rfl (Nat.le_of_ble_eq_true rfl) dL_law_636 (fun r2 M2 H locs hw2 h => ?_)
  obtain ⟨er, A2⟩ := K2 r2 M2 hw2
  exact lv_icmp_eq (tgt := 1284) hx hb dL_law_639 (by decide) (fun _ => kk M2 H locs A2 h) (fun z => absurd er z)
