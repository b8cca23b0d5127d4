/-! Sheet, Foretold -/
def wSheet (c : Nat → ClassId) (a : Nat → Nat) : va_W := [(a 0, .inr (4, [.int 0, .int 0, .int 0, .ref (a 1)])), (a 1, .inl (c 1, 24, .inr (.inl (fun _ => 0))))]
def wFore (c : Nat → ClassId) (f : Nat) (a : Nat → Nat) : va_W := [(a 0, .inr (2, [.ref f, .ref (a 1), .ref (a 2), .ref (a 3), .ref (a 4)])), (a 1, .inl (c 0, 36, .inl (fun _ => 0))), (a 2, .inl (c 0, 64, .inl (fun _ => 0))), (a 3, .inl (c 0, 36, .inl (fun _ => 0))), (a 4, .inl (c 1, 6, .inr (.inl (fun _ => 0))))]
set_option maxHeartbeats 4000000 in
set_option maxRecDepth 100000 in
theorem k_X4_init (l : Launch) (G : va_G) (c : Nat → ClassId) : kM l G c yX4_init wsX4_init ({ frames := 1, cells := 1, slots := 24, locals := 12 }) 1 24 [] (.inr (4, [.int 0, .int 0, .int 0, .null])) (wSheet c) := by
  refine k_start (cc := cX4_init) (maxL := 1) (by decide +kernel) rfl rfl (fun _ => Nat.le_of_ble_eq_true rfl) ?_
  intro h0 p e s m below meth c0 A hAe C hr hlocks hin2 h ls hl
  have hx := C.1.1
  have hb := C.1.2.1
  have hts := C.1.2.2.2.2
  have hin : ∀ w ∈ u_ws RX4 TX4 4, w ∈ wsX4_init := by decide +kernel
  refine lv_aload_n hx hb dX4_init_0 rfl (lv_at hl 0 rfl) ?_
  refine kr_objInit C (by decide +kernel) (by decide +kernel) (by decide +kernel) hl.1 dX4_init_1 (by decide) (by decide) ?_
  refine lv_aload_n hx hb dX4_init_4 rfl (lv_at hl 0 rfl) ?_
  refine lv_bipush (v := 24) hx hb dX4_init_5 (by decide) ?_
  refine kr_newl C h (by decide +kernel) 24 rfl (by decide) (Nat.le_of_ble_eq_true rfl) (Nat.le_of_ble_eq_true rfl) dX4_init_7 (fun q1 H h => ?_)
  have h : kH G A ([(h0, .inr (4, [.int 0, .int 0, .int 0, .null])), (q1, .inl (c 1, 24, .inr (.inl (fun _ => 0))))]) s H _ := h
  refine W.widen (k := 1) (n := 24) (Nat.le_of_ble_eq_true rfl) (Nat.le_of_ble_eq_true rfl) ?_
  refine kr_putF C h hin2 0 rfl (T := TX4) (N := 4) rfl hin tyX4 tyX4_ok nmX4 3 (by decide) (by decide +kernel) rfl (by decide +kernel) (v := .ref q1) rfl rfl (Nat.le_of_ble_eq_true rfl) dX4_init_9 (fun H locs h => ?_)
  have h : kH G A ([(h0, .inr (4, [.int 0, .int 0, .int 0, .ref q1])), (q1, .inl (c 1, 24, .inr (.inl (fun _ => 0))))]) s H _ := h
  exact kr_ret C h hr hlocks (fun j => ([h0, q1] : List Nat).getD j 0) rfl rfl dX4_init_12
set_option maxHeartbeats 4000000 in
set_option maxRecDepth 100000 in
theorem k_X2_init (l : Launch) (G : va_G) (c : Nat → ClassId) (f : Nat) : kM l G c yX2_init wsX2_init ({ frames := 1, cells := 4, slots := 142, locals := 12 }) 4 142 [.ref f] (.inr (2, [.null, .null, .null, .null, .null])) (wFore c f) := by
  refine k_start (cc := cX2_init) (maxL := 2) (by decide +kernel) rfl rfl (fun _ => Nat.le_of_ble_eq_true rfl) ?_
  intro h0 p e s m below meth c0 A hAe C hr hlocks hin2 h ls hl
  have hx := C.1.1
  have hb := C.1.2.1
  have hts := C.1.2.2.2.2
  have hin : ∀ w ∈ u_ws RX2 TX2 5, w ∈ wsX2_init := by decide +kernel
  refine lv_aload_n hx hb dX2_init_0 rfl (lv_at hl 0 rfl) ?_
  refine kr_objInit C (by decide +kernel) (by decide +kernel) (by decide +kernel) hl.1 dX2_init_1 (by decide) (by decide) ?_
  refine lv_aload_n hx hb dX2_init_4 rfl (lv_at hl 0 rfl) ?_
  refine lv_bipush (v := 36) hx hb dX2_init_5 (by decide) ?_
  refine kr_newi C h (by decide +kernel) 36 rfl (by decide) (Nat.le_of_ble_eq_true rfl) (Nat.le_of_ble_eq_true rfl) dX2_init_7 (fun q1 H h => ?_)
  have h : kH G A ([(h0, .inr (2, [.null, .null, .null, .null, .null])), (q1, .inl (c 0, 36, .inl (fun _ => 0)))]) s H _ := h
  refine W.widen (k := 1) (n := 36) (Nat.le_of_ble_eq_true rfl) (Nat.le_of_ble_eq_true rfl) ?_
  refine kr_putF C h hin2 0 rfl (T := TX2) (N := 5) rfl hin tyX2 tyX2_ok nmX2 1 (by decide) (by decide +kernel) rfl (by decide +kernel) (v := .ref q1) rfl rfl (Nat.le_of_ble_eq_true rfl) dX2_init_9 (fun H locs h => ?_)
  have h : kH G A ([(h0, .inr (2, [.null, .ref q1, .null, .null, .null])), (q1, .inl (c 0, 36, .inl (fun _ => 0)))]) s H _ := h
  refine lv_aload_n hx hb dX2_init_12 rfl (lv_at hl 0 rfl) ?_
  refine lv_bipush (v := 64) hx hb dX2_init_13 (by decide) ?_
  refine kr_newi C h (by decide +kernel) 64 rfl (by decide) (Nat.le_of_ble_eq_true rfl) (Nat.le_of_ble_eq_true rfl) dX2_init_15 (fun q2 H h => ?_)
  have h : kH G A ([(h0, .inr (2, [.null, .ref q1, .null, .null, .null])), (q1, .inl (c 0, 36, .inl (fun _ => 0))), (q2, .inl (c 0, 64, .inl (fun _ => 0)))]) s H _ := h
  refine W.widen (k := 2) (n := 100) (Nat.le_of_ble_eq_true rfl) (Nat.le_of_ble_eq_true rfl) ?_
  refine kr_putF C h hin2 0 rfl (T := TX2) (N := 5) rfl hin tyX2 tyX2_ok nmX2 2 (by decide) (by decide +kernel) rfl (by decide +kernel) (v := .ref q2) rfl rfl (Nat.le_of_ble_eq_true rfl) dX2_init_17 (fun H locs h => ?_)
  have h : kH G A ([(h0, .inr (2, [.null, .ref q1, .ref q2, .null, .null])), (q1, .inl (c 0, 36, .inl (fun _ => 0))), (q2, .inl (c 0, 64, .inl (fun _ => 0)))]) s H _ := h
  refine lv_aload_n hx hb dX2_init_20 rfl (lv_at hl 0 rfl) ?_
  refine lv_bipush (v := 36) hx hb dX2_init_21 (by decide) ?_
  refine kr_newi C h (by decide +kernel) 36 rfl (by decide) (Nat.le_of_ble_eq_true rfl) (Nat.le_of_ble_eq_true rfl) dX2_init_23 (fun q3 H h => ?_)
  have h : kH G A ([(h0, .inr (2, [.null, .ref q1, .ref q2, .null, .null])), (q1, .inl (c 0, 36, .inl (fun _ => 0))), (q2, .inl (c 0, 64, .inl (fun _ => 0))), (q3, .inl (c 0, 36, .inl (fun _ => 0)))]) s H _ := h
  refine W.widen (k := 3) (n := 136) (Nat.le_of_ble_eq_true rfl) (Nat.le_of_ble_eq_true rfl) ?_
  refine kr_putF C h hin2 0 rfl (T := TX2) (N := 5) rfl hin tyX2 tyX2_ok nmX2 3 (by decide) (by decide +kernel) rfl (by decide +kernel) (v := .ref q3) rfl rfl (Nat.le_of_ble_eq_true rfl) dX2_init_25 (fun H locs h => ?_)
  have h : kH G A ([(h0, .inr (2, [.null, .ref q1, .ref q2, .ref q3, .null])), (q1, .inl (c 0, 36, .inl (fun _ => 0))), (q2, .inl (c 0, 64, .inl (fun _ => 0))), (q3, .inl (c 0, 36, .inl (fun _ => 0)))]) s H _ := h
  refine lv_aload_n hx hb dX2_init_28 rfl (lv_at hl 0 rfl) ?_
  refine lv_bipush (v := 6) hx hb dX2_init_29 (by decide) ?_
  refine kr_newl C h (by decide +kernel) 6 rfl (by decide) (Nat.le_of_ble_eq_true rfl) (Nat.le_of_ble_eq_true rfl) dX2_init_31 (fun q4 H h => ?_)
  have h : kH G A ([(h0, .inr (2, [.null, .ref q1, .ref q2, .ref q3, .null])), (q1, .inl (c 0, 36, .inl (fun _ => 0))), (q2, .inl (c 0, 64, .inl (fun _ => 0))), (q3, .inl (c 0, 36, .inl (fun _ => 0))), (q4, .inl (c 1, 6, .inr (.inl (fun _ => 0))))]) s H _ := h
  refine W.widen (k := 4) (n := 142) (Nat.le_of_ble_eq_true rfl) (Nat.le_of_ble_eq_true rfl) ?_
  refine kr_putF C h hin2 0 rfl (T := TX2) (N := 5) rfl hin tyX2 tyX2_ok nmX2 4 (by decide) (by decide +kernel) rfl (by decide +kernel) (v := .ref q4) rfl rfl (Nat.le_of_ble_eq_true rfl) dX2_init_33 (fun H locs h => ?_)
  have h : kH G A ([(h0, .inr (2, [.null, .ref q1, .ref q2, .ref q3, .ref q4])), (q1, .inl (c 0, 36, .inl (fun _ => 0))), (q2, .inl (c 0, 64, .inl (fun _ => 0))), (q3, .inl (c 0, 36, .inl (fun _ => 0))), (q4, .inl (c 1, 6, .inr (.inl (fun _ => 0))))]) s H _ := h
  refine lv_aload_n hx hb dX2_init_36 rfl (lv_at hl 0 rfl) ?_
  refine lv_aload_n hx hb dX2_init_37 rfl (lv_at hl 1 rfl) ?_
  refine kr_putF C h hin2 0 rfl (T := TX2) (N := 5) rfl hin tyX2 tyX2_ok nmX2 0 (by decide) (by decide +kernel) rfl (by decide +kernel) (v := .ref f) rfl rfl (Nat.le_of_ble_eq_true rfl) dX2_init_38 (fun H locs h => ?_)
  have h : kH G A ([(h0, .inr (2, [.ref f, .ref q1, .ref q2, .ref q3, .ref q4])), (q1, .inl (c 0, 36, .inl (fun _ => 0))), (q2, .inl (c 0, 64, .inl (fun _ => 0))), (q3, .inl (c 0, 36, .inl (fun _ => 0))), (q4, .inl (c 1, 6, .inr (.inl (fun _ => 0))))]) s H _ := h
  exact kr_ret C h hr hlocks (fun j => ([h0, q1, q2, q3, q4] : List Nat).getD j 0) rfl rfl dX2_init_41
