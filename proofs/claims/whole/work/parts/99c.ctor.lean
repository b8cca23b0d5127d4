/-! Book, Moment: what their constructors make -/
def wBook (c : Nat → ClassId) (a : Nat → Nat) : va_W := [(a 0, .inr (0, [.int 0, .ref (a 1), .ref (a 2), .ref (a 3)])), (a 1, .inl (c 0, 12, .inl (fun _ => 0))), (a 2, .inl (c 0, 12, .inl (fun _ => 0))), (a 3, .inl (c 0, 12, .inl (fun _ => 0)))]
def wMom (c : Nat → ClassId) (a : Nat → Nat) : va_W := [(a 0, .inr (3, [.ref (a 1), .ref (a 2), .ref (a 3), .ref (a 4), .int 0, .int 1])), (a 1, .inl (c 0, 6, .inl (fun _ => 0))), (a 2, .inl (c 0, 6, .inl (fun _ => 0))), (a 3, .inl (c 0, 6, .inl (fun _ => 0))), (a 4, .inr (0, [.int 0, .ref (a 5), .ref (a 6), .ref (a 7)])), (a 5, .inl (c 0, 12, .inl (fun _ => 0))), (a 6, .inl (c 0, 12, .inl (fun _ => 0))), (a 7, .inl (c 0, 12, .inl (fun _ => 0)))]
set_option maxHeartbeats 4000000 in
set_option maxRecDepth 100000 in
theorem k_X0_init (l : Launch) (G : va_G) (c : Nat → ClassId) : kM l G c yX0_init wsX0_init ({ frames := 1, cells := 3, slots := 36, locals := 12 }) 3 36 [] (.inr (0, [.int 0, .null, .null, .null])) (wBook c) := by
  refine k_start (cc := cX0_init) (maxL := 1) (by decide +kernel) rfl rfl (fun _ => Nat.le_of_ble_eq_true rfl) ?_
  intro h0 p e s m below meth c0 A hAe C hr hlocks hin2 h ls hl
  have hx := C.1.1
  have hb := C.1.2.1
  have hts := C.1.2.2.2.2
  have hin : ∀ w ∈ u_ws RX0 TX0 4, w ∈ wsX0_init := by decide +kernel
  refine lv_aload_n hx hb dX0_init_0 rfl (lv_at hl 0 rfl) ?_
  refine kr_objInit C (by decide +kernel) (by decide +kernel) (by decide +kernel) hl.1 dX0_init_1 (by decide) (by decide) ?_
  refine lv_aload_n hx hb dX0_init_4 rfl (lv_at hl 0 rfl) ?_
  refine lv_bipush (v := 12) hx hb dX0_init_5 (by decide) ?_
  refine kr_newi C h (by decide +kernel) 12 rfl (by decide) (Nat.le_of_ble_eq_true rfl) (Nat.le_of_ble_eq_true rfl) dX0_init_7 (fun q1 H h => ?_)
  have h : kH G A ([(h0, .inr (0, [.int 0, .null, .null, .null])), (q1, .inl (c 0, 12, .inl (fun _ => 0)))]) s H _ := h
  refine W.widen (k := 1) (n := 12) (Nat.le_of_ble_eq_true rfl) (Nat.le_of_ble_eq_true rfl) ?_
  refine kr_putF C h hin2 0 rfl (T := TX0) (N := 4) rfl hin tyX0 tyX0_ok nmX0 1 (by decide) (by decide +kernel) rfl (by decide +kernel) (v := .ref q1) rfl rfl (Nat.le_of_ble_eq_true rfl) dX0_init_9 (fun H locs h => ?_)
  have h : kH G A ([(h0, .inr (0, [.int 0, .ref q1, .null, .null])), (q1, .inl (c 0, 12, .inl (fun _ => 0)))]) s H _ := h
  refine lv_aload_n hx hb dX0_init_12 rfl (lv_at hl 0 rfl) ?_
  refine lv_bipush (v := 12) hx hb dX0_init_13 (by decide) ?_
  refine kr_newi C h (by decide +kernel) 12 rfl (by decide) (Nat.le_of_ble_eq_true rfl) (Nat.le_of_ble_eq_true rfl) dX0_init_15 (fun q2 H h => ?_)
  have h : kH G A ([(h0, .inr (0, [.int 0, .ref q1, .null, .null])), (q1, .inl (c 0, 12, .inl (fun _ => 0))), (q2, .inl (c 0, 12, .inl (fun _ => 0)))]) s H _ := h
  refine W.widen (k := 2) (n := 24) (Nat.le_of_ble_eq_true rfl) (Nat.le_of_ble_eq_true rfl) ?_
  refine kr_putF C h hin2 0 rfl (T := TX0) (N := 4) rfl hin tyX0 tyX0_ok nmX0 2 (by decide) (by decide +kernel) rfl (by decide +kernel) (v := .ref q2) rfl rfl (Nat.le_of_ble_eq_true rfl) dX0_init_17 (fun H locs h => ?_)
  have h : kH G A ([(h0, .inr (0, [.int 0, .ref q1, .ref q2, .null])), (q1, .inl (c 0, 12, .inl (fun _ => 0))), (q2, .inl (c 0, 12, .inl (fun _ => 0)))]) s H _ := h
  refine lv_aload_n hx hb dX0_init_20 rfl (lv_at hl 0 rfl) ?_
  refine lv_bipush (v := 12) hx hb dX0_init_21 (by decide) ?_
  refine kr_newi C h (by decide +kernel) 12 rfl (by decide) (Nat.le_of_ble_eq_true rfl) (Nat.le_of_ble_eq_true rfl) dX0_init_23 (fun q3 H h => ?_)
  have h : kH G A ([(h0, .inr (0, [.int 0, .ref q1, .ref q2, .null])), (q1, .inl (c 0, 12, .inl (fun _ => 0))), (q2, .inl (c 0, 12, .inl (fun _ => 0))), (q3, .inl (c 0, 12, .inl (fun _ => 0)))]) s H _ := h
  refine W.widen (k := 3) (n := 36) (Nat.le_of_ble_eq_true rfl) (Nat.le_of_ble_eq_true rfl) ?_
  refine kr_putF C h hin2 0 rfl (T := TX0) (N := 4) rfl hin tyX0 tyX0_ok nmX0 3 (by decide) (by decide +kernel) rfl (by decide +kernel) (v := .ref q3) rfl rfl (Nat.le_of_ble_eq_true rfl) dX0_init_25 (fun H locs h => ?_)
  have h : kH G A ([(h0, .inr (0, [.int 0, .ref q1, .ref q2, .ref q3])), (q1, .inl (c 0, 12, .inl (fun _ => 0))), (q2, .inl (c 0, 12, .inl (fun _ => 0))), (q3, .inl (c 0, 12, .inl (fun _ => 0)))]) s H _ := h
  exact kr_ret C h hr hlocks (fun j => ([h0, q1, q2, q3] : List Nat).getD j 0) rfl rfl dX0_init_28
set_option maxHeartbeats 4000000 in
set_option maxRecDepth 100000 in
theorem k_X3_init (l : Launch) (G : va_G) (c : Nat → ClassId) : kM l G c yX3_init wsX3_init ({ frames := 2, cells := 7, slots := 58, locals := 32 }) 7 58 [] (.inr (3, [.null, .null, .null, .null, .int 0, .int 0])) (wMom c) := by
  refine k_start (cc := cX3_init) (maxL := 1) (by decide +kernel) rfl rfl (fun _ => Nat.le_of_ble_eq_true rfl) ?_
  intro h0 p e s m below meth c0 A hAe C hr hlocks hin2 h ls hl
  have hx := C.1.1
  have hb := C.1.2.1
  have hts := C.1.2.2.2.2
  have hin : ∀ w ∈ u_ws RX3 TX3 6, w ∈ wsX3_init := by decide +kernel
  refine lv_aload_n hx hb dX3_init_0 rfl (lv_at hl 0 rfl) ?_
  refine kr_objInit C (by decide +kernel) (by decide +kernel) (by decide +kernel) hl.1 dX3_init_1 (by decide) (by decide) ?_
  refine lv_aload_n hx hb dX3_init_4 rfl (lv_at hl 0 rfl) ?_
  refine lv_bipush (v := 6) hx hb dX3_init_5 (by decide) ?_
  refine kr_newi C h (by decide +kernel) 6 rfl (by decide) (Nat.le_of_ble_eq_true rfl) (Nat.le_of_ble_eq_true rfl) dX3_init_7 (fun q1 H h => ?_)
  have h : kH G A ([(h0, .inr (3, [.null, .null, .null, .null, .int 0, .int 0])), (q1, .inl (c 0, 6, .inl (fun _ => 0)))]) s H _ := h
  refine W.widen (k := 1) (n := 6) (Nat.le_of_ble_eq_true rfl) (Nat.le_of_ble_eq_true rfl) ?_
  refine kr_putF C h hin2 0 rfl (T := TX3) (N := 6) rfl hin tyX3 tyX3_ok nmX3 0 (by decide) (by decide +kernel) rfl (by decide +kernel) (v := .ref q1) rfl rfl (Nat.le_of_ble_eq_true rfl) dX3_init_9 (fun H locs h => ?_)
  have h : kH G A ([(h0, .inr (3, [.ref q1, .null, .null, .null, .int 0, .int 0])), (q1, .inl (c 0, 6, .inl (fun _ => 0)))]) s H _ := h
  refine lv_aload_n hx hb dX3_init_12 rfl (lv_at hl 0 rfl) ?_
  refine lv_bipush (v := 6) hx hb dX3_init_13 (by decide) ?_
  refine kr_newi C h (by decide +kernel) 6 rfl (by decide) (Nat.le_of_ble_eq_true rfl) (Nat.le_of_ble_eq_true rfl) dX3_init_15 (fun q2 H h => ?_)
  have h : kH G A ([(h0, .inr (3, [.ref q1, .null, .null, .null, .int 0, .int 0])), (q1, .inl (c 0, 6, .inl (fun _ => 0))), (q2, .inl (c 0, 6, .inl (fun _ => 0)))]) s H _ := h
  refine W.widen (k := 2) (n := 12) (Nat.le_of_ble_eq_true rfl) (Nat.le_of_ble_eq_true rfl) ?_
  refine kr_putF C h hin2 0 rfl (T := TX3) (N := 6) rfl hin tyX3 tyX3_ok nmX3 1 (by decide) (by decide +kernel) rfl (by decide +kernel) (v := .ref q2) rfl rfl (Nat.le_of_ble_eq_true rfl) dX3_init_17 (fun H locs h => ?_)
  have h : kH G A ([(h0, .inr (3, [.ref q1, .ref q2, .null, .null, .int 0, .int 0])), (q1, .inl (c 0, 6, .inl (fun _ => 0))), (q2, .inl (c 0, 6, .inl (fun _ => 0)))]) s H _ := h
  refine lv_aload_n hx hb dX3_init_20 rfl (lv_at hl 0 rfl) ?_
  refine lv_bipush (v := 6) hx hb dX3_init_21 (by decide) ?_
  refine kr_newi C h (by decide +kernel) 6 rfl (by decide) (Nat.le_of_ble_eq_true rfl) (Nat.le_of_ble_eq_true rfl) dX3_init_23 (fun q3 H h => ?_)
  have h : kH G A ([(h0, .inr (3, [.ref q1, .ref q2, .null, .null, .int 0, .int 0])), (q1, .inl (c 0, 6, .inl (fun _ => 0))), (q2, .inl (c 0, 6, .inl (fun _ => 0))), (q3, .inl (c 0, 6, .inl (fun _ => 0)))]) s H _ := h
  refine W.widen (k := 3) (n := 18) (Nat.le_of_ble_eq_true rfl) (Nat.le_of_ble_eq_true rfl) ?_
  refine kr_putF C h hin2 0 rfl (T := TX3) (N := 6) rfl hin tyX3 tyX3_ok nmX3 2 (by decide) (by decide +kernel) rfl (by decide +kernel) (v := .ref q3) rfl rfl (Nat.le_of_ble_eq_true rfl) dX3_init_25 (fun H locs h => ?_)
  have h : kH G A ([(h0, .inr (3, [.ref q1, .ref q2, .ref q3, .null, .int 0, .int 0])), (q1, .inl (c 0, 6, .inl (fun _ => 0))), (q2, .inl (c 0, 6, .inl (fun _ => 0))), (q3, .inl (c 0, 6, .inl (fun _ => 0)))]) s H _ := h
  refine lv_aload_n hx hb dX3_init_28 rfl (lv_at hl 0 rfl) ?_
  refine kr_new C h (Cn := RX0) (T := TX0) (N := 4) (ci := 0) rfl (by decide +kernel) tyX0 tyX0_ok (by decide +kernel) (by decide +kernel) (by decide +kernel) (fs := [.int 0, .null, .null, .null]) (by decide +kernel) (Nat.le_of_ble_eq_true rfl) (Nat.le_of_ble_eq_true rfl) dX3_init_29 (fun q4 H h => ?_)
  refine W.widen (k := 4) (n := 22) (Nat.le_of_ble_eq_true rfl) (Nat.le_of_ble_eq_true rfl) ?_
  refine lv_dup hx hb dX3_init_32 rfl ?_
  have h : kH G A ([(h0, .inr (3, [.ref q1, .ref q2, .ref q3, .null, .int 0, .int 0])), (q1, .inl (c 0, 6, .inl (fun _ => 0))), (q2, .inl (c 0, 6, .inl (fun _ => 0))), (q3, .inl (c 0, 6, .inl (fun _ => 0)))] ++ [(q4, .inr (0, [.int 0, .null, .null, .null]))]) s H _ := h
  refine kr_callIN C h (As := []) (rest := [.ref q4, .ref h0]) (k_X0_init l G c) (host := RX6) ⟨va_cnB 0 hts gX3_init_X0_init_n23 rfl rfl rfl C.2.2.2.1 (hts (.initialized RX0) (by decide +kernel)) (by decide +kernel) ⟨Nat.le_of_ble_eq_true rfl, Nat.le_of_ble_eq_true rfl⟩, rfl, hts (.instanceMethod yX0_init) (by decide +kernel)⟩ rfl hl.1 rfl (Nat.le_of_ble_eq_true rfl) dX3_init_33 ⟨Nat.le_of_ble_eq_true rfl, Nat.le_of_ble_eq_true rfl⟩ (fun a4 H locs ea4 h => ?_)
  refine W.widen (k := 7) (n := 58) (Nat.le_of_ble_eq_true rfl) (Nat.le_of_ble_eq_true rfl) ?_
  rw [← ea4]
  have h : kH G A ([(h0, .inr (3, [.ref q1, .ref q2, .ref q3, .null, .int 0, .int 0])), (q1, .inl (c 0, 6, .inl (fun _ => 0))), (q2, .inl (c 0, 6, .inl (fun _ => 0))), (q3, .inl (c 0, 6, .inl (fun _ => 0))), (a4 0, .inr (0, [.int 0, .ref (a4 1), .ref (a4 2), .ref (a4 3)])), (a4 1, .inl (c 0, 12, .inl (fun _ => 0))), (a4 2, .inl (c 0, 12, .inl (fun _ => 0))), (a4 3, .inl (c 0, 12, .inl (fun _ => 0)))]) s H _ := h
  refine kr_putF C h hin2 0 rfl (T := TX3) (N := 6) rfl hin tyX3 tyX3_ok nmX3 3 (by decide) (by decide +kernel) rfl (by decide +kernel) (v := .ref (a4 0)) rfl rfl (Nat.le_of_ble_eq_true rfl) dX3_init_36 (fun H locs h => ?_)
  have h : kH G A ([(h0, .inr (3, [.ref q1, .ref q2, .ref q3, .ref (a4 0), .int 0, .int 0])), (q1, .inl (c 0, 6, .inl (fun _ => 0))), (q2, .inl (c 0, 6, .inl (fun _ => 0))), (q3, .inl (c 0, 6, .inl (fun _ => 0))), (a4 0, .inr (0, [.int 0, .ref (a4 1), .ref (a4 2), .ref (a4 3)])), (a4 1, .inl (c 0, 12, .inl (fun _ => 0))), (a4 2, .inl (c 0, 12, .inl (fun _ => 0))), (a4 3, .inl (c 0, 12, .inl (fun _ => 0)))]) s H _ := h
  refine lv_aload_n hx hb dX3_init_39 rfl (lv_at hl 0 rfl) ?_
  refine lv_iconst (v := 1) hx hb dX3_init_40 (by decide) ?_
  refine kr_put C h 0 rfl (Cn := RX3) (T := TX3) (N := 6) rfl hin tyX3 tyX3_ok nmX3 5 (by decide) (by decide +kernel) rfl (v := .int 1) rfl rfl (Nat.le_of_ble_eq_true rfl) dX3_init_41 (fun H locs h => ?_)
  have h : kH G A ([(h0, .inr (3, [.ref q1, .ref q2, .ref q3, .ref (a4 0), .int 0, .int 1])), (q1, .inl (c 0, 6, .inl (fun _ => 0))), (q2, .inl (c 0, 6, .inl (fun _ => 0))), (q3, .inl (c 0, 6, .inl (fun _ => 0))), (a4 0, .inr (0, [.int 0, .ref (a4 1), .ref (a4 2), .ref (a4 3)])), (a4 1, .inl (c 0, 12, .inl (fun _ => 0))), (a4 2, .inl (c 0, 12, .inl (fun _ => 0))), (a4 3, .inl (c 0, 12, .inl (fun _ => 0)))]) s H _ := h
  exact kr_ret C h hr hlocks (fun j => ([h0, q1, q2, q3, a4 0, a4 1, a4 2, a4 3] : List Nat).getD j 0) rfl rfl dX3_init_44
