/-! FordWordModel -/
def kL4 (i : Nat) : Nat → Int32 := fun j => if j < i then -1 else 0
theorem kL4_s {i : Nat} : upd (kL4 i) i (-1) = kL4 (i + 1) := by
  funext j
  rw [u_upd]
  unfold kL4
  by_cases h : j = i
  · rw [if_pos h, if_pos (by omega)]
  · rw [if_neg h]
    by_cases h2 : j < i
    · rw [if_pos h2, if_pos (by omega)]
    · rw [if_neg h2, if_neg (by omega)]
def kMo (c : Nat → ClassId) (a : Nat → Nat) (i : Nat) : va_W := [(a 0, .inr (7, [.ref (a 1), .ref (a 2), .int 0, .int 0, .int 0, .ref (a 3), .ref (a 4), .ref (a 5), .int 0, .ref (a 6), .ref (a 7), .int 0, .int 0, .ref (a 8), .ref (a 9), .ref (a 10), .ref (a 11)])), (a 1, .inl (c 0, 115, .inl (upd (upd (upd (fun _ => 0) 2 9) 3 4) 5 1))), (a 2, .inl (c 0, 90, .inl (fun _ => 0))), (a 3, .inl (c 0, 48, .inl (fun _ => 0))), (a 4, .inl (c 0, 6, .inl (fun _ => 0))), (a 5, .inl (c 0, 920, .inl (fun _ => 0))), (a 6, .inl (c 0, 64, .inl (fun _ => 0))), (a 7, .inl (c 0, 1035, .inl (fun _ => 0))), (a 8, .inl (c 0, 4, .inl (kL4 i))), (a 9, .inl (c 0, 4, .inl (fun _ => 0))), (a 10, .inl (c 1, 96, .inr (.inl (fun _ => 0)))), (a 11, .inl (c 1, 24, .inr (.inl (fun _ => 0))))]
def wMod (c : Nat → ClassId) (a : Nat → Nat) : va_W := kMo c a 4
set_option maxHeartbeats 4000000 in
set_option maxRecDepth 100000 in
theorem kl_X7_init {l : Launch} {G : va_G} {c : Nat → ClassId} {p : Program} {e : Env} {s : State} {m : MethodId} {below : List Frame} {meth : Method} {c0 : Code} {A : Nat → Prop} {args : Array Value} (C : kF G c p s m args c0 cX7_init 2 wsX7_init RX7) (hr : meth.sig.returnType = none) (hlocks : meth.locks = false) (a : Nat → Nat) : ∀ (k i : Nat), i + k = 4 → ∀ (H : Heap) (locs : List Loc) (ls : Array Slot), kH G A (kMo c a i) s H locs → lv_has ls 2 [(1, .int (nI i)), (0, .ref (a 0))] →
    W p l e ({ frames := 1, cells := 11, slots := 2406, locals := 12 } : Room) s m args below meth c0 H locs 11 2406 (MQ below (va_Qv (fun b : Nat → Nat => b 0 = a 0) (kQ G (wMod c) A) A) args s 11 2406 A) (F0 m 116 ls []) := by
  have hx := C.1.1
  have hb := C.1.2.1
  have hts := C.1.2.2.2.2
  have hin : ∀ w ∈ u_ws RX7 TX7 17, w ∈ wsX7_init := by decide +kernel
  intro k
  induction k with
  | zero =>
    intro i hik H locs ls h hl
    have hi : i = 4 := by omega
    subst hi
    refine lv_iload_n hx hb dX7_init_116 rfl (lv_at hl 0 rfl) ?_
    refine lv_iconst (v := 4) hx hb dX7_init_117 (by decide) ?_
    refine lv_icmp_ge (tgt := 134) hx hb dX7_init_118 (by decide) (fun _ => ?_) (fun z => absurd (by decide) z)
    exact kr_ret C h hr hlocks a rfl rfl dX7_init_134
  | succ k ih =>
    intro i hik H locs ls h hl
    refine lv_iload_n hx hb dX7_init_116 rfl (lv_at hl 0 rfl) ?_
    refine lv_iconst (v := 4) hx hb dX7_init_117 (by decide) ?_
    refine lv_icmp_ge (tgt := 134) hx hb dX7_init_118 (by decide) (fun z => ?_) (fun _ => ?_)
    · have z : 4 ≤ i := (nI_leI (a := 4) (b := i) (by omega) (by omega)).mp z
      omega
    · refine lv_aload_n hx hb dX7_init_121 rfl (lv_at hl 1 rfl) ?_
      refine kr_get C h 0 rfl (Cn := RX7) (T := TX7) (N := 17) rfl hin 13 (by decide) (by decide +kernel) rfl dX7_init_122 ?_
      refine lv_iload_n hx hb dX7_init_125 rfl (lv_at hl 0 rfl) ?_
      refine lv_iconst (v := -1) hx hb dX7_init_126 (by decide) ?_
      refine kr_iast C h 8 (n := 4) (f := kL4 i) rfl i (by omega) (by decide) (x := -1) rfl dX7_init_127 (fun H locs h => ?_)
      rw [kL4_s] at h
      have h : kH G A (kMo c a (i + 1)) s H locs := h
      refine lv_iinc (v := nI (i + 1)) (lv' := [(1, .int (nI (i + 1))), (0, .ref (a 0))]) hx hb dX7_init_128 hl (k := 0) rfl (nI_add i 1) (by decide) rfl (fun ls hl => ?_)
      refine lv_goto (tgt := 116) hx hb dX7_init_131 (by decide) ?_
      exact ih (i + 1) (by omega) H locs ls h hl
set_option maxHeartbeats 4000000 in
set_option maxRecDepth 100000 in
theorem k_X7_init (l : Launch) (G : va_G) (c : Nat → ClassId) : kM l G c yX7_init wsX7_init ({ frames := 1, cells := 11, slots := 2406, locals := 12 }) 11 2406 [] (.inr (7, [.null, .null, .int 0, .int 0, .int 0, .null, .null, .null, .int 0, .null, .null, .int 0, .int 0, .null, .null, .null, .null])) (wMod c) := by
  refine k_start (cc := cX7_init) (maxL := 2) (by decide +kernel) rfl rfl (fun _ => Nat.le_of_ble_eq_true rfl) ?_
  intro h0 p e s m below meth c0 A hAe C hr hlocks hin2 h ls hl
  have hx := C.1.1
  have hb := C.1.2.1
  have hts := C.1.2.2.2.2
  have hin : ∀ w ∈ u_ws RX7 TX7 17, w ∈ wsX7_init := by decide +kernel
  refine lv_aload_n hx hb dX7_init_0 rfl (lv_at hl 0 rfl) ?_
  refine kr_objInit C (by decide +kernel) (by decide +kernel) (by decide +kernel) hl.1 dX7_init_1 (by decide) (by decide) ?_
  refine lv_aload_n hx hb dX7_init_4 rfl (lv_at hl 0 rfl) ?_
  refine lv_bipush (v := 115) hx hb dX7_init_5 (by decide) ?_
  refine kr_newi C h (by decide +kernel) 115 rfl (by decide) (Nat.le_of_ble_eq_true rfl) (Nat.le_of_ble_eq_true rfl) dX7_init_7 (fun q1 H h => ?_)
  have h : kH G A ([(h0, .inr (7, [.null, .null, .int 0, .int 0, .int 0, .null, .null, .null, .int 0, .null, .null, .int 0, .int 0, .null, .null, .null, .null])), (q1, .inl (c 0, 115, .inl (fun _ => 0)))]) s H _ := h
  refine W.widen (k := 1) (n := 115) (Nat.le_of_ble_eq_true rfl) (Nat.le_of_ble_eq_true rfl) ?_
  refine kr_putF C h hin2 0 rfl (T := TX7) (N := 17) rfl hin tyX7 tyX7_ok nmX7 0 (by decide) (by decide +kernel) rfl (by decide +kernel) (v := .ref q1) rfl rfl (Nat.le_of_ble_eq_true rfl) dX7_init_9 (fun H locs h => ?_)
  have h : kH G A ([(h0, .inr (7, [.ref q1, .null, .int 0, .int 0, .int 0, .null, .null, .null, .int 0, .null, .null, .int 0, .int 0, .null, .null, .null, .null])), (q1, .inl (c 0, 115, .inl (fun _ => 0)))]) s H _ := h
  refine lv_aload_n hx hb dX7_init_12 rfl (lv_at hl 0 rfl) ?_
  refine lv_bipush (v := 90) hx hb dX7_init_13 (by decide) ?_
  refine kr_newi C h (by decide +kernel) 90 rfl (by decide) (Nat.le_of_ble_eq_true rfl) (Nat.le_of_ble_eq_true rfl) dX7_init_15 (fun q2 H h => ?_)
  have h : kH G A ([(h0, .inr (7, [.ref q1, .null, .int 0, .int 0, .int 0, .null, .null, .null, .int 0, .null, .null, .int 0, .int 0, .null, .null, .null, .null])), (q1, .inl (c 0, 115, .inl (fun _ => 0))), (q2, .inl (c 0, 90, .inl (fun _ => 0)))]) s H _ := h
  refine W.widen (k := 2) (n := 205) (Nat.le_of_ble_eq_true rfl) (Nat.le_of_ble_eq_true rfl) ?_
  refine kr_putF C h hin2 0 rfl (T := TX7) (N := 17) rfl hin tyX7 tyX7_ok nmX7 1 (by decide) (by decide +kernel) rfl (by decide +kernel) (v := .ref q2) rfl rfl (Nat.le_of_ble_eq_true rfl) dX7_init_17 (fun H locs h => ?_)
  have h : kH G A ([(h0, .inr (7, [.ref q1, .ref q2, .int 0, .int 0, .int 0, .null, .null, .null, .int 0, .null, .null, .int 0, .int 0, .null, .null, .null, .null])), (q1, .inl (c 0, 115, .inl (fun _ => 0))), (q2, .inl (c 0, 90, .inl (fun _ => 0)))]) s H _ := h
  refine lv_aload_n hx hb dX7_init_20 rfl (lv_at hl 0 rfl) ?_
  refine lv_bipush (v := 48) hx hb dX7_init_21 (by decide) ?_
  refine kr_newi C h (by decide +kernel) 48 rfl (by decide) (Nat.le_of_ble_eq_true rfl) (Nat.le_of_ble_eq_true rfl) dX7_init_23 (fun q3 H h => ?_)
  have h : kH G A ([(h0, .inr (7, [.ref q1, .ref q2, .int 0, .int 0, .int 0, .null, .null, .null, .int 0, .null, .null, .int 0, .int 0, .null, .null, .null, .null])), (q1, .inl (c 0, 115, .inl (fun _ => 0))), (q2, .inl (c 0, 90, .inl (fun _ => 0))), (q3, .inl (c 0, 48, .inl (fun _ => 0)))]) s H _ := h
  refine W.widen (k := 3) (n := 253) (Nat.le_of_ble_eq_true rfl) (Nat.le_of_ble_eq_true rfl) ?_
  refine kr_putF C h hin2 0 rfl (T := TX7) (N := 17) rfl hin tyX7 tyX7_ok nmX7 5 (by decide) (by decide +kernel) rfl (by decide +kernel) (v := .ref q3) rfl rfl (Nat.le_of_ble_eq_true rfl) dX7_init_25 (fun H locs h => ?_)
  have h : kH G A ([(h0, .inr (7, [.ref q1, .ref q2, .int 0, .int 0, .int 0, .ref q3, .null, .null, .int 0, .null, .null, .int 0, .int 0, .null, .null, .null, .null])), (q1, .inl (c 0, 115, .inl (fun _ => 0))), (q2, .inl (c 0, 90, .inl (fun _ => 0))), (q3, .inl (c 0, 48, .inl (fun _ => 0)))]) s H _ := h
  refine lv_aload_n hx hb dX7_init_28 rfl (lv_at hl 0 rfl) ?_
  refine lv_bipush (v := 6) hx hb dX7_init_29 (by decide) ?_
  refine kr_newi C h (by decide +kernel) 6 rfl (by decide) (Nat.le_of_ble_eq_true rfl) (Nat.le_of_ble_eq_true rfl) dX7_init_31 (fun q4 H h => ?_)
  have h : kH G A ([(h0, .inr (7, [.ref q1, .ref q2, .int 0, .int 0, .int 0, .ref q3, .null, .null, .int 0, .null, .null, .int 0, .int 0, .null, .null, .null, .null])), (q1, .inl (c 0, 115, .inl (fun _ => 0))), (q2, .inl (c 0, 90, .inl (fun _ => 0))), (q3, .inl (c 0, 48, .inl (fun _ => 0))), (q4, .inl (c 0, 6, .inl (fun _ => 0)))]) s H _ := h
  refine W.widen (k := 4) (n := 259) (Nat.le_of_ble_eq_true rfl) (Nat.le_of_ble_eq_true rfl) ?_
  refine kr_putF C h hin2 0 rfl (T := TX7) (N := 17) rfl hin tyX7 tyX7_ok nmX7 6 (by decide) (by decide +kernel) rfl (by decide +kernel) (v := .ref q4) rfl rfl (Nat.le_of_ble_eq_true rfl) dX7_init_33 (fun H locs h => ?_)
  have h : kH G A ([(h0, .inr (7, [.ref q1, .ref q2, .int 0, .int 0, .int 0, .ref q3, .ref q4, .null, .int 0, .null, .null, .int 0, .int 0, .null, .null, .null, .null])), (q1, .inl (c 0, 115, .inl (fun _ => 0))), (q2, .inl (c 0, 90, .inl (fun _ => 0))), (q3, .inl (c 0, 48, .inl (fun _ => 0))), (q4, .inl (c 0, 6, .inl (fun _ => 0)))]) s H _ := h
  refine lv_aload_n hx hb dX7_init_36 rfl (lv_at hl 0 rfl) ?_
  refine lv_sipush (v := 920) hx hb dX7_init_37 (by decide) ?_
  refine kr_newi C h (by decide +kernel) 920 rfl (by decide) (Nat.le_of_ble_eq_true rfl) (Nat.le_of_ble_eq_true rfl) dX7_init_40 (fun q5 H h => ?_)
  have h : kH G A ([(h0, .inr (7, [.ref q1, .ref q2, .int 0, .int 0, .int 0, .ref q3, .ref q4, .null, .int 0, .null, .null, .int 0, .int 0, .null, .null, .null, .null])), (q1, .inl (c 0, 115, .inl (fun _ => 0))), (q2, .inl (c 0, 90, .inl (fun _ => 0))), (q3, .inl (c 0, 48, .inl (fun _ => 0))), (q4, .inl (c 0, 6, .inl (fun _ => 0))), (q5, .inl (c 0, 920, .inl (fun _ => 0)))]) s H _ := h
  refine W.widen (k := 5) (n := 1179) (Nat.le_of_ble_eq_true rfl) (Nat.le_of_ble_eq_true rfl) ?_
  refine kr_putF C h hin2 0 rfl (T := TX7) (N := 17) rfl hin tyX7 tyX7_ok nmX7 7 (by decide) (by decide +kernel) rfl (by decide +kernel) (v := .ref q5) rfl rfl (Nat.le_of_ble_eq_true rfl) dX7_init_42 (fun H locs h => ?_)
  have h : kH G A ([(h0, .inr (7, [.ref q1, .ref q2, .int 0, .int 0, .int 0, .ref q3, .ref q4, .ref q5, .int 0, .null, .null, .int 0, .int 0, .null, .null, .null, .null])), (q1, .inl (c 0, 115, .inl (fun _ => 0))), (q2, .inl (c 0, 90, .inl (fun _ => 0))), (q3, .inl (c 0, 48, .inl (fun _ => 0))), (q4, .inl (c 0, 6, .inl (fun _ => 0))), (q5, .inl (c 0, 920, .inl (fun _ => 0)))]) s H _ := h
  refine lv_aload_n hx hb dX7_init_45 rfl (lv_at hl 0 rfl) ?_
  refine lv_bipush (v := 64) hx hb dX7_init_46 (by decide) ?_
  refine kr_newi C h (by decide +kernel) 64 rfl (by decide) (Nat.le_of_ble_eq_true rfl) (Nat.le_of_ble_eq_true rfl) dX7_init_48 (fun q6 H h => ?_)
  have h : kH G A ([(h0, .inr (7, [.ref q1, .ref q2, .int 0, .int 0, .int 0, .ref q3, .ref q4, .ref q5, .int 0, .null, .null, .int 0, .int 0, .null, .null, .null, .null])), (q1, .inl (c 0, 115, .inl (fun _ => 0))), (q2, .inl (c 0, 90, .inl (fun _ => 0))), (q3, .inl (c 0, 48, .inl (fun _ => 0))), (q4, .inl (c 0, 6, .inl (fun _ => 0))), (q5, .inl (c 0, 920, .inl (fun _ => 0))), (q6, .inl (c 0, 64, .inl (fun _ => 0)))]) s H _ := h
  refine W.widen (k := 6) (n := 1243) (Nat.le_of_ble_eq_true rfl) (Nat.le_of_ble_eq_true rfl) ?_
  refine kr_putF C h hin2 0 rfl (T := TX7) (N := 17) rfl hin tyX7 tyX7_ok nmX7 9 (by decide) (by decide +kernel) rfl (by decide +kernel) (v := .ref q6) rfl rfl (Nat.le_of_ble_eq_true rfl) dX7_init_50 (fun H locs h => ?_)
  have h : kH G A ([(h0, .inr (7, [.ref q1, .ref q2, .int 0, .int 0, .int 0, .ref q3, .ref q4, .ref q5, .int 0, .ref q6, .null, .int 0, .int 0, .null, .null, .null, .null])), (q1, .inl (c 0, 115, .inl (fun _ => 0))), (q2, .inl (c 0, 90, .inl (fun _ => 0))), (q3, .inl (c 0, 48, .inl (fun _ => 0))), (q4, .inl (c 0, 6, .inl (fun _ => 0))), (q5, .inl (c 0, 920, .inl (fun _ => 0))), (q6, .inl (c 0, 64, .inl (fun _ => 0)))]) s H _ := h
  refine lv_aload_n hx hb dX7_init_53 rfl (lv_at hl 0 rfl) ?_
  refine lv_sipush (v := 1035) hx hb dX7_init_54 (by decide) ?_
  refine kr_newi C h (by decide +kernel) 1035 rfl (by decide) (Nat.le_of_ble_eq_true rfl) (Nat.le_of_ble_eq_true rfl) dX7_init_57 (fun q7 H h => ?_)
  have h : kH G A ([(h0, .inr (7, [.ref q1, .ref q2, .int 0, .int 0, .int 0, .ref q3, .ref q4, .ref q5, .int 0, .ref q6, .null, .int 0, .int 0, .null, .null, .null, .null])), (q1, .inl (c 0, 115, .inl (fun _ => 0))), (q2, .inl (c 0, 90, .inl (fun _ => 0))), (q3, .inl (c 0, 48, .inl (fun _ => 0))), (q4, .inl (c 0, 6, .inl (fun _ => 0))), (q5, .inl (c 0, 920, .inl (fun _ => 0))), (q6, .inl (c 0, 64, .inl (fun _ => 0))), (q7, .inl (c 0, 1035, .inl (fun _ => 0)))]) s H _ := h
  refine W.widen (k := 7) (n := 2278) (Nat.le_of_ble_eq_true rfl) (Nat.le_of_ble_eq_true rfl) ?_
  refine kr_putF C h hin2 0 rfl (T := TX7) (N := 17) rfl hin tyX7 tyX7_ok nmX7 10 (by decide) (by decide +kernel) rfl (by decide +kernel) (v := .ref q7) rfl rfl (Nat.le_of_ble_eq_true rfl) dX7_init_59 (fun H locs h => ?_)
  have h : kH G A ([(h0, .inr (7, [.ref q1, .ref q2, .int 0, .int 0, .int 0, .ref q3, .ref q4, .ref q5, .int 0, .ref q6, .ref q7, .int 0, .int 0, .null, .null, .null, .null])), (q1, .inl (c 0, 115, .inl (fun _ => 0))), (q2, .inl (c 0, 90, .inl (fun _ => 0))), (q3, .inl (c 0, 48, .inl (fun _ => 0))), (q4, .inl (c 0, 6, .inl (fun _ => 0))), (q5, .inl (c 0, 920, .inl (fun _ => 0))), (q6, .inl (c 0, 64, .inl (fun _ => 0))), (q7, .inl (c 0, 1035, .inl (fun _ => 0)))]) s H _ := h
  refine lv_aload_n hx hb dX7_init_62 rfl (lv_at hl 0 rfl) ?_
  refine lv_iconst (v := 4) hx hb dX7_init_63 (by decide) ?_
  refine kr_newi C h (by decide +kernel) 4 rfl (by decide) (Nat.le_of_ble_eq_true rfl) (Nat.le_of_ble_eq_true rfl) dX7_init_64 (fun q8 H h => ?_)
  have h : kH G A ([(h0, .inr (7, [.ref q1, .ref q2, .int 0, .int 0, .int 0, .ref q3, .ref q4, .ref q5, .int 0, .ref q6, .ref q7, .int 0, .int 0, .null, .null, .null, .null])), (q1, .inl (c 0, 115, .inl (fun _ => 0))), (q2, .inl (c 0, 90, .inl (fun _ => 0))), (q3, .inl (c 0, 48, .inl (fun _ => 0))), (q4, .inl (c 0, 6, .inl (fun _ => 0))), (q5, .inl (c 0, 920, .inl (fun _ => 0))), (q6, .inl (c 0, 64, .inl (fun _ => 0))), (q7, .inl (c 0, 1035, .inl (fun _ => 0))), (q8, .inl (c 0, 4, .inl (fun _ => 0)))]) s H _ := h
  refine W.widen (k := 8) (n := 2282) (Nat.le_of_ble_eq_true rfl) (Nat.le_of_ble_eq_true rfl) ?_
  refine kr_putF C h hin2 0 rfl (T := TX7) (N := 17) rfl hin tyX7 tyX7_ok nmX7 13 (by decide) (by decide +kernel) rfl (by decide +kernel) (v := .ref q8) rfl rfl (Nat.le_of_ble_eq_true rfl) dX7_init_66 (fun H locs h => ?_)
  have h : kH G A ([(h0, .inr (7, [.ref q1, .ref q2, .int 0, .int 0, .int 0, .ref q3, .ref q4, .ref q5, .int 0, .ref q6, .ref q7, .int 0, .int 0, .ref q8, .null, .null, .null])), (q1, .inl (c 0, 115, .inl (fun _ => 0))), (q2, .inl (c 0, 90, .inl (fun _ => 0))), (q3, .inl (c 0, 48, .inl (fun _ => 0))), (q4, .inl (c 0, 6, .inl (fun _ => 0))), (q5, .inl (c 0, 920, .inl (fun _ => 0))), (q6, .inl (c 0, 64, .inl (fun _ => 0))), (q7, .inl (c 0, 1035, .inl (fun _ => 0))), (q8, .inl (c 0, 4, .inl (fun _ => 0)))]) s H _ := h
  refine lv_aload_n hx hb dX7_init_69 rfl (lv_at hl 0 rfl) ?_
  refine lv_iconst (v := 4) hx hb dX7_init_70 (by decide) ?_
  refine kr_newi C h (by decide +kernel) 4 rfl (by decide) (Nat.le_of_ble_eq_true rfl) (Nat.le_of_ble_eq_true rfl) dX7_init_71 (fun q9 H h => ?_)
  have h : kH G A ([(h0, .inr (7, [.ref q1, .ref q2, .int 0, .int 0, .int 0, .ref q3, .ref q4, .ref q5, .int 0, .ref q6, .ref q7, .int 0, .int 0, .ref q8, .null, .null, .null])), (q1, .inl (c 0, 115, .inl (fun _ => 0))), (q2, .inl (c 0, 90, .inl (fun _ => 0))), (q3, .inl (c 0, 48, .inl (fun _ => 0))), (q4, .inl (c 0, 6, .inl (fun _ => 0))), (q5, .inl (c 0, 920, .inl (fun _ => 0))), (q6, .inl (c 0, 64, .inl (fun _ => 0))), (q7, .inl (c 0, 1035, .inl (fun _ => 0))), (q8, .inl (c 0, 4, .inl (fun _ => 0))), (q9, .inl (c 0, 4, .inl (fun _ => 0)))]) s H _ := h
  refine W.widen (k := 9) (n := 2286) (Nat.le_of_ble_eq_true rfl) (Nat.le_of_ble_eq_true rfl) ?_
  refine kr_putF C h hin2 0 rfl (T := TX7) (N := 17) rfl hin tyX7 tyX7_ok nmX7 14 (by decide) (by decide +kernel) rfl (by decide +kernel) (v := .ref q9) rfl rfl (Nat.le_of_ble_eq_true rfl) dX7_init_73 (fun H locs h => ?_)
  have h : kH G A ([(h0, .inr (7, [.ref q1, .ref q2, .int 0, .int 0, .int 0, .ref q3, .ref q4, .ref q5, .int 0, .ref q6, .ref q7, .int 0, .int 0, .ref q8, .ref q9, .null, .null])), (q1, .inl (c 0, 115, .inl (fun _ => 0))), (q2, .inl (c 0, 90, .inl (fun _ => 0))), (q3, .inl (c 0, 48, .inl (fun _ => 0))), (q4, .inl (c 0, 6, .inl (fun _ => 0))), (q5, .inl (c 0, 920, .inl (fun _ => 0))), (q6, .inl (c 0, 64, .inl (fun _ => 0))), (q7, .inl (c 0, 1035, .inl (fun _ => 0))), (q8, .inl (c 0, 4, .inl (fun _ => 0))), (q9, .inl (c 0, 4, .inl (fun _ => 0)))]) s H _ := h
  refine lv_aload_n hx hb dX7_init_76 rfl (lv_at hl 0 rfl) ?_
  refine lv_bipush (v := 96) hx hb dX7_init_77 (by decide) ?_
  refine kr_newl C h (by decide +kernel) 96 rfl (by decide) (Nat.le_of_ble_eq_true rfl) (Nat.le_of_ble_eq_true rfl) dX7_init_79 (fun q10 H h => ?_)
  have h : kH G A ([(h0, .inr (7, [.ref q1, .ref q2, .int 0, .int 0, .int 0, .ref q3, .ref q4, .ref q5, .int 0, .ref q6, .ref q7, .int 0, .int 0, .ref q8, .ref q9, .null, .null])), (q1, .inl (c 0, 115, .inl (fun _ => 0))), (q2, .inl (c 0, 90, .inl (fun _ => 0))), (q3, .inl (c 0, 48, .inl (fun _ => 0))), (q4, .inl (c 0, 6, .inl (fun _ => 0))), (q5, .inl (c 0, 920, .inl (fun _ => 0))), (q6, .inl (c 0, 64, .inl (fun _ => 0))), (q7, .inl (c 0, 1035, .inl (fun _ => 0))), (q8, .inl (c 0, 4, .inl (fun _ => 0))), (q9, .inl (c 0, 4, .inl (fun _ => 0))), (q10, .inl (c 1, 96, .inr (.inl (fun _ => 0))))]) s H _ := h
  refine W.widen (k := 10) (n := 2382) (Nat.le_of_ble_eq_true rfl) (Nat.le_of_ble_eq_true rfl) ?_
  refine kr_putF C h hin2 0 rfl (T := TX7) (N := 17) rfl hin tyX7 tyX7_ok nmX7 15 (by decide) (by decide +kernel) rfl (by decide +kernel) (v := .ref q10) rfl rfl (Nat.le_of_ble_eq_true rfl) dX7_init_81 (fun H locs h => ?_)
  have h : kH G A ([(h0, .inr (7, [.ref q1, .ref q2, .int 0, .int 0, .int 0, .ref q3, .ref q4, .ref q5, .int 0, .ref q6, .ref q7, .int 0, .int 0, .ref q8, .ref q9, .ref q10, .null])), (q1, .inl (c 0, 115, .inl (fun _ => 0))), (q2, .inl (c 0, 90, .inl (fun _ => 0))), (q3, .inl (c 0, 48, .inl (fun _ => 0))), (q4, .inl (c 0, 6, .inl (fun _ => 0))), (q5, .inl (c 0, 920, .inl (fun _ => 0))), (q6, .inl (c 0, 64, .inl (fun _ => 0))), (q7, .inl (c 0, 1035, .inl (fun _ => 0))), (q8, .inl (c 0, 4, .inl (fun _ => 0))), (q9, .inl (c 0, 4, .inl (fun _ => 0))), (q10, .inl (c 1, 96, .inr (.inl (fun _ => 0))))]) s H _ := h
  refine lv_aload_n hx hb dX7_init_84 rfl (lv_at hl 0 rfl) ?_
  refine lv_bipush (v := 24) hx hb dX7_init_85 (by decide) ?_
  refine kr_newl C h (by decide +kernel) 24 rfl (by decide) (Nat.le_of_ble_eq_true rfl) (Nat.le_of_ble_eq_true rfl) dX7_init_87 (fun q11 H h => ?_)
  have h : kH G A ([(h0, .inr (7, [.ref q1, .ref q2, .int 0, .int 0, .int 0, .ref q3, .ref q4, .ref q5, .int 0, .ref q6, .ref q7, .int 0, .int 0, .ref q8, .ref q9, .ref q10, .null])), (q1, .inl (c 0, 115, .inl (fun _ => 0))), (q2, .inl (c 0, 90, .inl (fun _ => 0))), (q3, .inl (c 0, 48, .inl (fun _ => 0))), (q4, .inl (c 0, 6, .inl (fun _ => 0))), (q5, .inl (c 0, 920, .inl (fun _ => 0))), (q6, .inl (c 0, 64, .inl (fun _ => 0))), (q7, .inl (c 0, 1035, .inl (fun _ => 0))), (q8, .inl (c 0, 4, .inl (fun _ => 0))), (q9, .inl (c 0, 4, .inl (fun _ => 0))), (q10, .inl (c 1, 96, .inr (.inl (fun _ => 0)))), (q11, .inl (c 1, 24, .inr (.inl (fun _ => 0))))]) s H _ := h
  refine W.widen (k := 11) (n := 2406) (Nat.le_of_ble_eq_true rfl) (Nat.le_of_ble_eq_true rfl) ?_
  refine kr_putF C h hin2 0 rfl (T := TX7) (N := 17) rfl hin tyX7 tyX7_ok nmX7 16 (by decide) (by decide +kernel) rfl (by decide +kernel) (v := .ref q11) rfl rfl (Nat.le_of_ble_eq_true rfl) dX7_init_89 (fun H locs h => ?_)
  have h : kH G A ([(h0, .inr (7, [.ref q1, .ref q2, .int 0, .int 0, .int 0, .ref q3, .ref q4, .ref q5, .int 0, .ref q6, .ref q7, .int 0, .int 0, .ref q8, .ref q9, .ref q10, .ref q11])), (q1, .inl (c 0, 115, .inl (fun _ => 0))), (q2, .inl (c 0, 90, .inl (fun _ => 0))), (q3, .inl (c 0, 48, .inl (fun _ => 0))), (q4, .inl (c 0, 6, .inl (fun _ => 0))), (q5, .inl (c 0, 920, .inl (fun _ => 0))), (q6, .inl (c 0, 64, .inl (fun _ => 0))), (q7, .inl (c 0, 1035, .inl (fun _ => 0))), (q8, .inl (c 0, 4, .inl (fun _ => 0))), (q9, .inl (c 0, 4, .inl (fun _ => 0))), (q10, .inl (c 1, 96, .inr (.inl (fun _ => 0)))), (q11, .inl (c 1, 24, .inr (.inl (fun _ => 0))))]) s H _ := h
  refine lv_aload_n hx hb dX7_init_92 rfl (lv_at hl 0 rfl) ?_
  refine kr_get C h 0 rfl (Cn := RX7) (T := TX7) (N := 17) rfl hin 0 (by decide) (by decide +kernel) rfl dX7_init_93 ?_
  refine lv_iconst (v := 2) hx hb dX7_init_96 (by decide) ?_
  refine lv_bipush (v := 9) hx hb dX7_init_97 (by decide) ?_
  refine kr_iast C h 1 (n := 115) (f := (fun _ => 0)) rfl 2 (by decide) (by decide) (x := 9) rfl dX7_init_99 (fun H locs h => ?_)
  have h : kH G A ([(h0, .inr (7, [.ref q1, .ref q2, .int 0, .int 0, .int 0, .ref q3, .ref q4, .ref q5, .int 0, .ref q6, .ref q7, .int 0, .int 0, .ref q8, .ref q9, .ref q10, .ref q11])), (q1, .inl (c 0, 115, .inl (upd (fun _ => 0) 2 9))), (q2, .inl (c 0, 90, .inl (fun _ => 0))), (q3, .inl (c 0, 48, .inl (fun _ => 0))), (q4, .inl (c 0, 6, .inl (fun _ => 0))), (q5, .inl (c 0, 920, .inl (fun _ => 0))), (q6, .inl (c 0, 64, .inl (fun _ => 0))), (q7, .inl (c 0, 1035, .inl (fun _ => 0))), (q8, .inl (c 0, 4, .inl (fun _ => 0))), (q9, .inl (c 0, 4, .inl (fun _ => 0))), (q10, .inl (c 1, 96, .inr (.inl (fun _ => 0)))), (q11, .inl (c 1, 24, .inr (.inl (fun _ => 0))))]) s H _ := h
  refine lv_aload_n hx hb dX7_init_100 rfl (lv_at hl 0 rfl) ?_
  refine kr_get C h 0 rfl (Cn := RX7) (T := TX7) (N := 17) rfl hin 0 (by decide) (by decide +kernel) rfl dX7_init_101 ?_
  refine lv_iconst (v := 3) hx hb dX7_init_104 (by decide) ?_
  refine lv_iconst (v := 4) hx hb dX7_init_105 (by decide) ?_
  refine kr_iast C h 1 (n := 115) (f := (upd (fun _ => 0) 2 9)) rfl 3 (by decide) (by decide) (x := 4) rfl dX7_init_106 (fun H locs h => ?_)
  have h : kH G A ([(h0, .inr (7, [.ref q1, .ref q2, .int 0, .int 0, .int 0, .ref q3, .ref q4, .ref q5, .int 0, .ref q6, .ref q7, .int 0, .int 0, .ref q8, .ref q9, .ref q10, .ref q11])), (q1, .inl (c 0, 115, .inl (upd (upd (fun _ => 0) 2 9) 3 4))), (q2, .inl (c 0, 90, .inl (fun _ => 0))), (q3, .inl (c 0, 48, .inl (fun _ => 0))), (q4, .inl (c 0, 6, .inl (fun _ => 0))), (q5, .inl (c 0, 920, .inl (fun _ => 0))), (q6, .inl (c 0, 64, .inl (fun _ => 0))), (q7, .inl (c 0, 1035, .inl (fun _ => 0))), (q8, .inl (c 0, 4, .inl (fun _ => 0))), (q9, .inl (c 0, 4, .inl (fun _ => 0))), (q10, .inl (c 1, 96, .inr (.inl (fun _ => 0)))), (q11, .inl (c 1, 24, .inr (.inl (fun _ => 0))))]) s H _ := h
  refine lv_aload_n hx hb dX7_init_107 rfl (lv_at hl 0 rfl) ?_
  refine kr_get C h 0 rfl (Cn := RX7) (T := TX7) (N := 17) rfl hin 0 (by decide) (by decide +kernel) rfl dX7_init_108 ?_
  refine lv_iconst (v := 5) hx hb dX7_init_111 (by decide) ?_
  refine lv_iconst (v := 1) hx hb dX7_init_112 (by decide) ?_
  refine kr_iast C h 1 (n := 115) (f := (upd (upd (fun _ => 0) 2 9) 3 4)) rfl 5 (by decide) (by decide) (x := 1) rfl dX7_init_113 (fun H locs h => ?_)
  have h : kH G A ([(h0, .inr (7, [.ref q1, .ref q2, .int 0, .int 0, .int 0, .ref q3, .ref q4, .ref q5, .int 0, .ref q6, .ref q7, .int 0, .int 0, .ref q8, .ref q9, .ref q10, .ref q11])), (q1, .inl (c 0, 115, .inl (upd (upd (upd (fun _ => 0) 2 9) 3 4) 5 1))), (q2, .inl (c 0, 90, .inl (fun _ => 0))), (q3, .inl (c 0, 48, .inl (fun _ => 0))), (q4, .inl (c 0, 6, .inl (fun _ => 0))), (q5, .inl (c 0, 920, .inl (fun _ => 0))), (q6, .inl (c 0, 64, .inl (fun _ => 0))), (q7, .inl (c 0, 1035, .inl (fun _ => 0))), (q8, .inl (c 0, 4, .inl (fun _ => 0))), (q9, .inl (c 0, 4, .inl (fun _ => 0))), (q10, .inl (c 1, 96, .inr (.inl (fun _ => 0)))), (q11, .inl (c 1, 24, .inr (.inl (fun _ => 0))))]) s H _ := h
  have h : kH G A (kMo c (fun j => ([h0, q1, q2, q3, q4, q5, q6, q7, q8, q9, q10, q11] : List Nat).getD j 0) 0) s H _ := h
  refine lv_iconst (v := 0) hx hb dX7_init_114 (by decide) ?_
  refine lv_istore_n (lv' := [(1, .int 0), (0, .ref h0)]) hx hb dX7_init_115 rfl hl (by decide) rfl (fun ls hl => ?_)
  exact kl_X7_init C hr hlocks (fun j => ([h0, q1, q2, q3, q4, q5, q6, q7, q8, q9, q10, q11] : List Nat).getD j 0) 4 0 rfl H _ ls h hl
