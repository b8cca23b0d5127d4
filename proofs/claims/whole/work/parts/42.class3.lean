set_option maxHeartbeats 1000000 in
set_option maxRecDepth 100000 in
theorem k_J6_bitCount_0f7a4 (l : Launch) (E : uE) (hI : uI E) (M : uM) (s : Nat) (hs : s < 64) : Met l yJ6_bitCount_0f7a4 wsJ6_bitCount_0f7a4 ({ frames := 0, cells := 0, slots := 0, locals := 0 }) (va_Pc [.int (nI s)] (uB E M)) (va_Qi (fun r u => M = u ∧ r = nI (pop s)) (uP E) (uA E)) 0 0 (uA E) := by
  refine u_start (cc := cJ6_bitCount_0f7a4) (maxL := 1) (ret := (some .int)) hI (by decide) rfl (Nat.le_of_ble_eq_true rfl) ?_
  intro p_ e_ s_ m_ bl_ me_ c_ C hr hlocks h ls hl
  have hx := C.1.1
  have hb := C.1.2.1
  have hown : s_.vm.findClass RJ6 = some m_.cls := C.1.2.2.2.1
  have hts := C.1.2.2.2.2
  have hl : lv_has ls 1 [(0, .int (nI s))] := hl
  refine lv_iload_n hx hb dJ6_bitCount_0f7a4_0 rfl (lv_at hl 0 rfl) ?_
  refine lv_iload_n hx hb dJ6_bitCount_0f7a4_1 rfl (lv_at hl 0 rfl) ?_
  refine lv_iconst (v := 1) hx hb dJ6_bitCount_0f7a4_2 (by decide) ?_
  refine lv_iushr (v := ((nI s).toUInt32 >>> ((1 : Int32).toUInt32 &&& Int32.toUInt32 31)).toInt32) hx hb dJ6_bitCount_0f7a4_3 rfl ?_
  refine lv_ldcw (v := 1431655765) hx hb hown (hts (.constant RJ6 265 1431655765) (by decide +kernel)) dJ6_bitCount_0f7a4_4 ?_
  refine lv_iand hx hb dJ6_bitCount_0f7a4_7 ?_
  refine lv_isub hx hb dJ6_bitCount_0f7a4_8 ?_
  refine lv_topi (fun v_1 ev_1 => ?_)
  refine lv_istore_n (lv' := [(0, .int v_1)]) hx hb dJ6_bitCount_0f7a4_9 rfl hl (by decide) rfl (fun ls hl => ?_)
  refine lv_iload_n hx hb dJ6_bitCount_0f7a4_10 rfl (lv_at hl 0 rfl) ?_
  refine lv_ldcw (v := 858993459) hx hb hown (hts (.constant RJ6 266 858993459) (by decide +kernel)) dJ6_bitCount_0f7a4_11 ?_
  refine lv_iand hx hb dJ6_bitCount_0f7a4_14 ?_
  refine lv_iload_n hx hb dJ6_bitCount_0f7a4_15 rfl (lv_at hl 0 rfl) ?_
  refine lv_iconst (v := 2) hx hb dJ6_bitCount_0f7a4_16 (by decide) ?_
  refine lv_iushr (v := (v_1.toUInt32 >>> ((2 : Int32).toUInt32 &&& Int32.toUInt32 31)).toInt32) hx hb dJ6_bitCount_0f7a4_17 rfl ?_
  refine lv_ldcw (v := 858993459) hx hb hown (hts (.constant RJ6 266 858993459) (by decide +kernel)) dJ6_bitCount_0f7a4_18 ?_
  refine lv_iand hx hb dJ6_bitCount_0f7a4_21 ?_
  refine lv_iadd hx hb dJ6_bitCount_0f7a4_22 ?_
  refine lv_topi (fun v_2 ev_2 => ?_)
  refine lv_istore_n (lv' := [(0, .int v_2)]) hx hb dJ6_bitCount_0f7a4_23 rfl hl (by decide) rfl (fun ls hl => ?_)
  refine lv_iload_n hx hb dJ6_bitCount_0f7a4_24 rfl (lv_at hl 0 rfl) ?_
  refine lv_iload_n hx hb dJ6_bitCount_0f7a4_25 rfl (lv_at hl 0 rfl) ?_
  refine lv_iconst (v := 4) hx hb dJ6_bitCount_0f7a4_26 (by decide) ?_
  refine lv_iushr (v := (v_2.toUInt32 >>> ((4 : Int32).toUInt32 &&& Int32.toUInt32 31)).toInt32) hx hb dJ6_bitCount_0f7a4_27 rfl ?_
  refine lv_iadd hx hb dJ6_bitCount_0f7a4_28 ?_
  refine lv_ldcw (v := 252645135) hx hb hown (hts (.constant RJ6 267 252645135) (by decide +kernel)) dJ6_bitCount_0f7a4_29 ?_
  refine lv_iand hx hb dJ6_bitCount_0f7a4_32 ?_
  refine lv_topi (fun v_3 ev_3 => ?_)
  refine lv_istore_n (lv' := [(0, .int v_3)]) hx hb dJ6_bitCount_0f7a4_33 rfl hl (by decide) rfl (fun ls hl => ?_)
  refine lv_iload_n hx hb dJ6_bitCount_0f7a4_34 rfl (lv_at hl 0 rfl) ?_
  refine lv_iload_n hx hb dJ6_bitCount_0f7a4_35 rfl (lv_at hl 0 rfl) ?_
  refine lv_bipush (v := 8) hx hb dJ6_bitCount_0f7a4_36 (by decide) ?_
  refine lv_iushr (v := (v_3.toUInt32 >>> ((8 : Int32).toUInt32 &&& Int32.toUInt32 31)).toInt32) hx hb dJ6_bitCount_0f7a4_38 rfl ?_
  refine lv_iadd hx hb dJ6_bitCount_0f7a4_39 ?_
  refine lv_topi (fun v_4 ev_4 => ?_)
  refine lv_istore_n (lv' := [(0, .int v_4)]) hx hb dJ6_bitCount_0f7a4_40 rfl hl (by decide) rfl (fun ls hl => ?_)
  refine lv_iload_n hx hb dJ6_bitCount_0f7a4_41 rfl (lv_at hl 0 rfl) ?_
  refine lv_iload_n hx hb dJ6_bitCount_0f7a4_42 rfl (lv_at hl 0 rfl) ?_
  refine lv_bipush (v := 16) hx hb dJ6_bitCount_0f7a4_43 (by decide) ?_
  refine lv_iushr (v := (v_4.toUInt32 >>> ((16 : Int32).toUInt32 &&& Int32.toUInt32 31)).toInt32) hx hb dJ6_bitCount_0f7a4_45 rfl ?_
  refine lv_iadd hx hb dJ6_bitCount_0f7a4_46 ?_
  refine lv_topi (fun v_5 ev_5 => ?_)
  refine lv_istore_n (lv' := [(0, .int v_5)]) hx hb dJ6_bitCount_0f7a4_47 rfl hl (by decide) rfl (fun ls hl => ?_)
  refine lv_iload_n hx hb dJ6_bitCount_0f7a4_48 rfl (lv_at hl 0 rfl) ?_
  refine lv_bipush (v := 63) hx hb dJ6_bitCount_0f7a4_49 (by decide) ?_
  refine lv_iand hx hb dJ6_bitCount_0f7a4_51 ?_
  exact ur_iret C h hr hlocks (⟨rfl, by subst ev_1; subst ev_2; subst ev_3; subst ev_4; subst ev_5; exact bitc_all ⟨s, hs⟩⟩) dJ6_bitCount_0f7a4_52
set_option maxHeartbeats 1000000 in
set_option maxRecDepth 100000 in
theorem k_X2_wrongOf (l : Launch) (E : uE) (hI : uI E) (M : uM) (p : Nat) (x2 : Int32) (hp : p < 6) : Met l yX2_wrongOf wsX2_wrongOf ({ frames := 0, cells := 0, slots := 0, locals := 0 }) (va_Pc [.ref (E.2.1 235), .int (nI p), .int x2] (uB E M)) (va_Qi (fun r u => M = u ∧ r = xWrong M p x2) (uP E) (uA E)) 0 0 (uA E) := by
  have hin1 : ∀ w ∈ wsX10, w ∈ wsX2_wrongOf := by decide +kernel
  have hin2 : ∀ w ∈ wsX20, w ∈ wsX2_wrongOf := by decide +kernel
  refine u_start (cc := cX2_wrongOf) (maxL := 3) (ret := (some .int)) hI (by decide) rfl (Nat.le_of_ble_eq_true rfl) ?_
  intro p_ e_ s_ m_ bl_ me_ c_ C hr hlocks h ls hl
  have hx := C.1.1
  have hb := C.1.2.1
  have hown : s_.vm.findClass RX2 = some m_.cls := C.1.2.2.2.1
  have hts := C.1.2.2.2.2
  have hl : lv_has ls 3 [(0, .ref (E.2.1 235)), (1, .int (nI p)), (2, .int x2)] := hl
  refine lv_aload_n hx hb dX2_wrongOf_0 rfl (lv_at hl 0 rfl) ?_
  refine ur_get C h 235 (by decide) (uc_235 E _) (Cn := RX2) (T := TX2) (N := 5) rfl hin2 0 (by decide) (by decide +kernel) rfl dX2_wrongOf_1 ?_
  refine ur_get C h 1 (by decide) (uc_1 E _) (Cn := RX1) (T := TX1) (N := 11) rfl hin1 2 (by decide) (by decide +kernel) rfl dX2_wrongOf_4 ?_
  refine lv_iload_n hx hb dX2_wrongOf_7 rfl (lv_at hl 1 rfl) ?_
  refine ur_iald C h 3 (by decide) (uc_3 E _) (p) (by omega) (by decide) dX2_wrongOf_8 ?_
  refine lv_if_ne (tgt := 19) hx hb dX2_wrongOf_9 (by decide) (fun c_1 => ?_) (fun c_1 => ?_)
  · skip
    refine lv_iload_n hx hb dX2_wrongOf_19 rfl (lv_at hl 2 rfl) ?_
    exact ur_iret C h hr hlocks (by refine ⟨rfl, ?_⟩; simp [xWrong, c_1]) dX2_wrongOf_20
  · skip
    refine lv_ldc (v := 1000000) hx hb hown (hts (.constant RX2 34 1000000) (by decide +kernel)) dX2_wrongOf_12 ?_
    refine lv_iload_n hx hb dX2_wrongOf_14 rfl (lv_at hl 2 rfl) ?_
    refine lv_isub hx hb dX2_wrongOf_15 ?_
    refine lv_goto (tgt := 20) hx hb dX2_wrongOf_16 (by decide) ?_
    exact ur_iret C h hr hlocks (by refine ⟨rfl, ?_⟩; simp [xWrong, c_1]) dX2_wrongOf_20
set_option maxHeartbeats 1000000 in
set_option maxRecDepth 100000 in
theorem k_X2_wrongsBy (l : Launch) (E : uE) (hI : uI E) (M : uM) (w : Nat) (hw : w < 6) (n : Nat) (hn : M.1 1 0 = nI n) (hn6 : n ≤ 6) (ht : ¬ M.1 1 7 = 0) : Met l yX2_wrongsBy wsX2_wrongsBy ({ frames := 6, cells := 0, slots := 0, locals := 142 }) (va_Pc [.ref (E.2.1 235), .int (nI w)] (uB E M)) (va_Qi (fun r u => M = u ∧ r = xWrongs M n w) (uP E) (uA E)) 0 0 (uA E) := by
  have hin1 : ∀ w ∈ wsX10, w ∈ wsX2_wrongsBy := by decide +kernel
  have hin2 : ∀ w ∈ wsX20, w ∈ wsX2_wrongsBy := by decide +kernel
  have hin3 : ∀ w ∈ wsX30, w ∈ wsX2_wrongsBy := by decide +kernel
  refine u_start (cc := cX2_wrongsBy) (maxL := 4) (ret := (some .int)) hI (by decide) rfl (Nat.le_of_ble_eq_true rfl) ?_
  intro p_ e_ s_ m_ bl_ me_ c_ C hr hlocks h ls hl
  have hx := C.1.1
  have hb := C.1.2.1
  have hown : s_.vm.findClass RX2 = some m_.cls := C.1.2.2.2.1
  have hts := C.1.2.2.2.2
  have hl : lv_has ls 4 [(0, .ref (E.2.1 235)), (1, .int (nI w))] := hl
  refine lv_iconst (v := 0) hx hb dX2_wrongsBy_0 (by decide) ?_
  refine lv_istore_n (lv' := [(2, .int 0), (0, .ref (E.2.1 235)), (1, .int (nI w))]) hx hb dX2_wrongsBy_1 rfl hl (by decide) rfl (fun ls hl => ?_)
  refine lv_iconst (v := 0) hx hb dX2_wrongsBy_2 (by decide) ?_
  refine lv_istore_n (lv' := [(3, .int 0), (2, .int 0), (0, .ref (E.2.1 235)), (1, .int (nI w))]) hx hb dX2_wrongsBy_3 rfl hl (by decide) rfl (fun ls hl => ?_)
  have lp4 : ∀ (n4 : Nat) (i : Nat) (v : Int32), n - i < n4 → i ≤ n → v = uSum (fun p => if M.1 8 p = 0 then xWrong M p (xPassIn M p w (M.1 7 4)) else 0) i → ∀ (H : Heap) (locs : List Loc) (ls : Array Slot), uH E M s_ H locs → lv_has ls 4 [(3, .int (nI i)), (2, .int v), (0, .ref (E.2.1 235)), (1, .int (nI w))] → W p_ l e_ ({ frames := 6, cells := 0, slots := 0, locals := 142 }) s_ m_ (List.toArray [.ref (E.2.1 235), .int (nI w)]) bl_ me_ c_ H locs 0 0 (MQ bl_ (va_Qi (fun r u => M = u ∧ r = xWrongs M n w) (uP E) (uA E)) (List.toArray [.ref (E.2.1 235), .int (nI w)]) s_ 0 0 (uA E)) (F0 m_ 4 ls []) := by
    intro n4
    induction n4 with
    | zero => intro i v hms; exact absurd hms (Nat.not_lt_zero _)
    | succ n4 ih4 =>
      intro i v hms4 hi hv H locs ls h hl
      refine lv_iload_n hx hb dX2_wrongsBy_4 rfl (lv_at hl 0 rfl) ?_
      refine lv_aload_n hx hb dX2_wrongsBy_5 rfl (lv_at hl 2 rfl) ?_
      refine ur_get C h 235 (by decide) (uc_235 E _) (Cn := RX2) (T := TX2) (N := 5) rfl hin2 0 (by decide) (by decide +kernel) rfl dX2_wrongsBy_6 ?_
      refine ur_get C h 1 (by decide) (uc_1 E _) (Cn := RX1) (T := TX1) (N := 11) rfl hin1 0 (by decide) (by decide +kernel) rfl dX2_wrongsBy_9 ?_
      refine ur_eq (y := nI n) (hn) ?_
      refine lv_icmp_ge (tgt := 53) hx hb dX2_wrongsBy_12 (by decide) (fun c_1 => ?_) (fun c_1 => ?_)
      · skip
        have c_1 : n ≤ i := (nI_leI (a := n) (b := i) (by omega) (by omega)).mp c_1
        refine lv_iload_n hx hb dX2_wrongsBy_53 rfl (lv_at hl 1 rfl) ?_
        exact ur_iret C h hr hlocks (⟨rfl, by rw [hv, show i = n by omega]; rfl⟩) dX2_wrongsBy_54
      · skip
        have c_1 : ¬ n ≤ i := fun z => c_1 ((nI_leI (a := n) (b := i) (by omega) (by omega)).mpr z)
        refine lv_aload_n hx hb dX2_wrongsBy_15 rfl (lv_at hl 2 rfl) ?_
        refine ur_get C h 235 (by decide) (uc_235 E _) (Cn := RX2) (T := TX2) (N := 5) rfl hin2 0 (by decide) (by decide +kernel) rfl dX2_wrongsBy_16 ?_
        refine ur_get C h 1 (by decide) (uc_1 E _) (Cn := RX1) (T := TX1) (N := 11) rfl hin1 8 (by decide) (by decide +kernel) rfl dX2_wrongsBy_19 ?_
        refine ur_get C h 7 (by decide) (uc_7 E _) (Cn := RX3) (T := TX3) (N := 6) rfl hin3 0 (by decide) (by decide +kernel) rfl dX2_wrongsBy_22 ?_
        refine lv_iload_n hx hb dX2_wrongsBy_25 rfl (lv_at hl 0 rfl) ?_
        refine ur_iald C h 8 (by decide) (uc_8 E _) (i) (by omega) (by decide) dX2_wrongsBy_26 ?_
        refine lv_if_ne (tgt := 47) hx hb dX2_wrongsBy_27 (by decide) (fun c_2 => ?_) (fun c_2 => ?_)
        · skip
          refine lv_iinc (v := nI (i + 1)) (lv' := [(3, .int (nI (i + 1))), (2, .int v), (0, .ref (E.2.1 235)), (1, .int (nI w))]) hx hb dX2_wrongsBy_47 hl (k := 0) rfl (nI_add i 1) (by decide) rfl (fun ls hl => ?_)
          refine lv_goto (tgt := 4) hx hb dX2_wrongsBy_50 (by decide) ?_
          exact ih4  (i + 1) v (by omega) (by omega) (by first | rfl | (simp [uSum, hv, c_1, c_2]; done)) _ _ _ h (lv_sub hl [0, 1, 2, 3] rfl)
        · skip
          refine lv_iload_n hx hb dX2_wrongsBy_30 rfl (lv_at hl 1 rfl) ?_
          refine lv_aload_n hx hb dX2_wrongsBy_31 rfl (lv_at hl 2 rfl) ?_
          refine lv_iload_n hx hb dX2_wrongsBy_32 rfl (lv_at hl 0 rfl) ?_
          refine lv_aload_n hx hb dX2_wrongsBy_33 rfl (lv_at hl 2 rfl) ?_
          refine ur_get C h 235 (by decide) (uc_235 E _) (Cn := RX2) (T := TX2) (N := 5) rfl hin2 0 (by decide) (by decide +kernel) rfl dX2_wrongsBy_34 ?_
          refine lv_iload_n hx hb dX2_wrongsBy_37 rfl (lv_at hl 0 rfl) ?_
          refine lv_iload_n hx hb dX2_wrongsBy_38 rfl (lv_at hl 3 rfl) ?_
          refine ur_callVi C h (k := 1) (As := [.int (nI i), .int (nI w)]) (rest := [.int (nI i), .ref (E.2.1 235), .int v]) (k_X1_passNow l E hI M i w (by omega) (by omega) ht) (cwV 2 hts gX2_wrongsBy_X1_passNow rfl rfl rfl (by decide +kernel) ⟨Nat.le_of_ble_eq_true rfl, Nat.le_of_ble_eq_true rfl⟩) (by decide) (uc_1 E _) (T := TX1) (N := 11) rfl rfl hl.1 rfl (Nat.le_of_ble_eq_true rfl) dX2_wrongsBy_39 (fun r_3 M_4 H locs hw_4 h => ?_)
          obtain ⟨hu, er_3⟩ := hw_4
          subst hu
          refine ur_eq (y := xPassIn M i w (M.1 7 4)) er_3 ?_
          refine ur_callVi C h (k := 235) (As := [.int (nI i), .int (xPassIn M i w (M.1 7 4))]) (rest := [.int v]) (k_X2_wrongOf l E hI M i (xPassIn M i w (M.1 7 4)) (by omega)) (cwV 2 hts gX2_wrongsBy_X2_wrongOf rfl rfl rfl (by decide +kernel) ⟨Nat.le_of_ble_eq_true rfl, Nat.le_of_ble_eq_true rfl⟩) (by decide) (uc_235 E _) (T := TX2) (N := 5) rfl rfl hl.1 rfl (Nat.le_of_ble_eq_true rfl) dX2_wrongsBy_42 (fun r_5 M_6 H locs hw_6 h => ?_)
          obtain ⟨hu, er_5⟩ := hw_6
          subst hu
          refine ur_eq (y := xWrong M i (xPassIn M i w (M.1 7 4))) er_5 ?_
          refine lv_iadd hx hb dX2_wrongsBy_45 ?_
          refine lv_topi (fun v_7 ev_7 => ?_)
          refine lv_istore_n (lv' := [(2, .int v_7), (3, .int (nI i)), (0, .ref (E.2.1 235)), (1, .int (nI w))]) hx hb dX2_wrongsBy_46 rfl hl (by decide) rfl (fun ls hl => ?_)
          refine lv_iinc (v := nI (i + 1)) (lv' := [(3, .int (nI (i + 1))), (2, .int v_7), (0, .ref (E.2.1 235)), (1, .int (nI w))]) hx hb dX2_wrongsBy_47 hl (k := 1) rfl (nI_add i 1) (by decide) rfl (fun ls hl => ?_)
          refine lv_goto (tgt := 4) hx hb dX2_wrongsBy_50 (by decide) ?_
          exact ih4  (i + 1) v_7 (by omega) (by omega) (by first | rfl | (subst ev_7; simp [uSum, hv, c_1, c_2]; done)) _ _ _ h (lv_sub hl [0, 1, 2, 3] rfl)
  exact lp4 _ 0 0 (Nat.lt_succ_self _) (by omega) (by first | rfl | (simp [uSum, hv, ]; done)) _ _ _ h (lv_sub hl [0, 1, 2, 3] rfl)
set_option maxHeartbeats 1000000 in
set_option maxRecDepth 100000 in
theorem k_X2_partingWord (l : Launch) (E : uE) (hI : uI E) (M : uM) (n : Nat) (hn : M.1 1 0 = nI n) (hn6 : n ≤ 6) (nw : Nat) (hnw : M.1 1 4 = nI nw) (hnw6 : nw ≤ 6) (ht : ¬ M.1 1 7 = 0) (hw0 : 0 < nw) : Met l yX2_partingWord wsX2_partingWord ({ frames := 7, cells := 0, slots := 0, locals := 165 }) (va_Pc [.ref (E.2.1 235)] (uB E M)) (va_Qi (fun r u => M = u ∧ r = nI (xPart (xWrongs M n) (nw - 1)).1) (uP E) (uA E)) 0 0 (uA E) := by
  have hin1 : ∀ w ∈ wsX10, w ∈ wsX2_partingWord := by decide +kernel
  have hin2 : ∀ w ∈ wsX20, w ∈ wsX2_partingWord := by decide +kernel
  refine u_start (cc := cX2_partingWord) (maxL := 5) (ret := (some .int)) hI (by decide) rfl (Nat.le_of_ble_eq_true rfl) ?_
  intro p_ e_ s_ m_ bl_ me_ c_ C hr hlocks h ls hl
  have hx := C.1.1
  have hb := C.1.2.1
  have hown : s_.vm.findClass RX2 = some m_.cls := C.1.2.2.2.1
  have hts := C.1.2.2.2.2
  have hl : lv_has ls 5 [(0, .ref (E.2.1 235))] := hl
  refine lv_iconst (v := 0) hx hb dX2_partingWord_0 (by decide) ?_
  refine lv_istore_n (lv' := [(1, .int 0), (0, .ref (E.2.1 235))]) hx hb dX2_partingWord_1 rfl hl (by decide) rfl (fun ls hl => ?_)
  refine lv_aload_n hx hb dX2_partingWord_2 rfl (lv_at hl 1 rfl) ?_
  refine lv_iconst (v := 0) hx hb dX2_partingWord_3 (by decide) ?_
  refine ur_callVi C h (k := 235) (As := [.int 0]) (rest := []) (k_X2_wrongsBy l E hI M 0 (by omega) n hn hn6 ht) (cwV 1 hts gX2_partingWord_X2_wrongsBy rfl rfl rfl (by decide +kernel) ⟨Nat.le_of_ble_eq_true rfl, Nat.le_of_ble_eq_true rfl⟩) (by decide) (uc_235 E _) (T := TX2) (N := 5) rfl rfl hl.1 rfl (Nat.le_of_ble_eq_true rfl) dX2_partingWord_4 (fun r_1 M_2 H locs hw_2 h => ?_)
  obtain ⟨hu, er_1⟩ := hw_2
  subst hu
  refine ur_eq (y := xWrongs M n 0) er_1 ?_
  refine lv_istore_n (lv' := [(2, .int (xWrongs M n 0)), (1, .int 0), (0, .ref (E.2.1 235))]) hx hb dX2_partingWord_7 rfl hl (by decide) rfl (fun ls hl => ?_)
  refine lv_iconst (v := 1) hx hb dX2_partingWord_8 (by decide) ?_
  refine lv_istore_n (lv' := [(3, .int 1), (2, .int (xWrongs M n 0)), (1, .int 0), (0, .ref (E.2.1 235))]) hx hb dX2_partingWord_9 rfl hl (by decide) rfl (fun ls hl => ?_)
  have lp10 : ∀ (n10 : Nat) (i b0 : Nat) (v0 : Int32), nw - i < n10 → i + 1 ≤ nw → (b0, v0) = xPart (xWrongs M n) i → ∀ (H : Heap) (locs : List Loc) (ls : Array Slot), uH E M s_ H locs → lv_has ls 5 [(3, .int (nI (1 + i))), (2, .int v0), (1, .int (nI b0)), (0, .ref (E.2.1 235))] → W p_ l e_ ({ frames := 7, cells := 0, slots := 0, locals := 165 }) s_ m_ (List.toArray [.ref (E.2.1 235)]) bl_ me_ c_ H locs 0 0 (MQ bl_ (va_Qi (fun r u => M = u ∧ r = nI (xPart (xWrongs M n) (nw - 1)).1) (uP E) (uA E)) (List.toArray [.ref (E.2.1 235)]) s_ 0 0 (uA E)) (F0 m_ 10 ls []) := by
    intro n10
    induction n10 with
    | zero => intro i b0 v0 hms; exact absurd hms (Nat.not_lt_zero _)
    | succ n10 ih10 =>
      intro i b0 v0 hms10 hi hbl H locs ls h hl
      refine lv_iload_n hx hb dX2_partingWord_10 rfl (lv_at hl 0 rfl) ?_
      refine lv_aload_n hx hb dX2_partingWord_11 rfl (lv_at hl 3 rfl) ?_
      refine ur_get C h 235 (by decide) (uc_235 E _) (Cn := RX2) (T := TX2) (N := 5) rfl hin2 0 (by decide) (by decide +kernel) rfl dX2_partingWord_12 ?_
      refine ur_get C h 1 (by decide) (uc_1 E _) (Cn := RX1) (T := TX1) (N := 11) rfl hin1 4 (by decide) (by decide +kernel) rfl dX2_partingWord_15 ?_
      refine ur_eq (y := nI nw) (hnw) ?_
      refine lv_icmp_ge (tgt := 45) hx hb dX2_partingWord_18 (by decide) (fun c_3 => ?_) (fun c_3 => ?_)
      · skip
        have c_3 : nw ≤ (1 + i) := (nI_leI (a := nw) (b := (1 + i)) (by omega) (by omega)).mp c_3
        refine lv_iload_n hx hb dX2_partingWord_45 rfl (lv_at hl 2 rfl) ?_
        exact ur_iret C h hr hlocks (⟨rfl, by rw [show nw - 1 = i by omega, ← hbl]⟩) dX2_partingWord_46
      · skip
        have c_3 : ¬ nw ≤ (1 + i) := fun z => c_3 ((nI_leI (a := nw) (b := (1 + i)) (by omega) (by omega)).mpr z)
        refine lv_aload_n hx hb dX2_partingWord_21 rfl (lv_at hl 3 rfl) ?_
        refine lv_iload_n hx hb dX2_partingWord_22 rfl (lv_at hl 0 rfl) ?_
        refine ur_callVi C h (k := 235) (As := [.int (nI (1 + i))]) (rest := []) (k_X2_wrongsBy l E hI M (1 + i) (by omega) n hn hn6 ht) (cwV 1 hts gX2_partingWord_X2_wrongsBy rfl rfl rfl (by decide +kernel) ⟨Nat.le_of_ble_eq_true rfl, Nat.le_of_ble_eq_true rfl⟩) (by decide) (uc_235 E _) (T := TX2) (N := 5) rfl rfl hl.1 rfl (Nat.le_of_ble_eq_true rfl) dX2_partingWord_23 (fun r_4 M_5 H locs hw_5 h => ?_)
        obtain ⟨hu, er_4⟩ := hw_5
        subst hu
        refine ur_eq (y := xWrongs M n (1 + i)) er_4 ?_
        refine lv_istore (lv' := [(4, .int (xWrongs M n (1 + i))), (3, .int (nI (1 + i))), (2, .int v0), (1, .int (nI b0)), (0, .ref (E.2.1 235))]) hx hb dX2_partingWord_26 hl (by decide) rfl (fun ls hl => ?_)
        refine lv_iload hx hb dX2_partingWord_28 (lv_at hl 0 rfl) ?_
        refine lv_iload_n hx hb dX2_partingWord_30 rfl (lv_at hl 2 rfl) ?_
        refine lv_icmp_ge (tgt := 39) hx hb dX2_partingWord_31 (by decide) (fun c_6 => ?_) (fun c_6 => ?_)
        · skip
          refine lv_iinc (v := nI (1 + i + 1)) (lv' := [(3, .int (nI (1 + i + 1))), (4, .int (xWrongs M n (1 + i))), (2, .int v0), (1, .int (nI b0)), (0, .ref (E.2.1 235))]) hx hb dX2_partingWord_39 hl (k := 1) rfl (nI_add (1 + i) 1) (by decide) rfl (fun ls hl => ?_)
          refine lv_goto (tgt := 10) hx hb dX2_partingWord_42 (by decide) ?_
          exact ih10  (i + 1) b0 v0 (by omega) (by omega) (by rw [xPart, ← hbl]; dsimp only; rw [Nat.add_comm i 1, if_pos c_6]) _ _ _ h (lv_sub hl [0, 2, 3, 4] rfl)
        · skip
          refine lv_iload_n hx hb dX2_partingWord_34 rfl (lv_at hl 1 rfl) ?_
          refine lv_istore_n (lv' := [(1, .int (nI (1 + i))), (4, .int (xWrongs M n (1 + i))), (3, .int (nI (1 + i))), (2, .int v0), (0, .ref (E.2.1 235))]) hx hb dX2_partingWord_35 rfl hl (by decide) rfl (fun ls hl => ?_)
          refine lv_iload hx hb dX2_partingWord_36 (lv_at hl 1 rfl) ?_
          refine lv_istore_n (lv' := [(2, .int (xWrongs M n (1 + i))), (1, .int (nI (1 + i))), (4, .int (xWrongs M n (1 + i))), (3, .int (nI (1 + i))), (0, .ref (E.2.1 235))]) hx hb dX2_partingWord_38 rfl hl (by decide) rfl (fun ls hl => ?_)
          refine lv_iinc (v := nI (1 + i + 1)) (lv' := [(3, .int (nI (1 + i + 1))), (2, .int (xWrongs M n (1 + i))), (1, .int (nI (1 + i))), (4, .int (xWrongs M n (1 + i))), (0, .ref (E.2.1 235))]) hx hb dX2_partingWord_39 hl (k := 3) rfl (nI_add (1 + i) 1) (by decide) rfl (fun ls hl => ?_)
          refine lv_goto (tgt := 10) hx hb dX2_partingWord_42 (by decide) ?_
          exact ih10  (i + 1) (1 + i) (xWrongs M n (1 + i)) (by omega) (by omega) (by rw [xPart, ← hbl]; dsimp only; rw [Nat.add_comm i 1, if_neg c_6]) _ _ _ h (lv_sub hl [0, 1, 2, 4] rfl)
  exact lp10 _ 0 0 (xWrongs M n 0) (Nat.lt_succ_self _) (by omega) (by rfl) _ _ _ h (lv_sub hl [0, 1, 2, 3] rfl)
set_option maxHeartbeats 1000000 in
set_option maxRecDepth 100000 in
theorem k_X2_passOnceTaught (l : Launch) (E : uE) (hI : uI E) (M : uM) (p w : Nat) (x3 : Int32) (hp : p < 6) (hw : w < 6) (ht : ¬ M.1 1 7 = 0) : Met l yX2_passOnceTaught wsX2_passOnceTaught ({ frames := 4, cells := 0, slots := 0, locals := 97 }) (va_Pc [.ref (E.2.1 235), .int (nI p), .int (nI w), .int x3] (uB E M)) (va_Qi (fun r u => M = u ∧ r = xTaught M p w x3) (uP E) (uA E)) 0 0 (uA E) := by
  have hin1 : ∀ w ∈ wsX10, w ∈ wsX2_passOnceTaught := by decide +kernel
  have hin2 : ∀ w ∈ wsX20, w ∈ wsX2_passOnceTaught := by decide +kernel
  have hin3 : ∀ w ∈ wsX30, w ∈ wsX2_passOnceTaught := by decide +kernel
  refine u_start (cc := cX2_passOnceTaught) (maxL := 6) (ret := (some .int)) hI (by decide) rfl (Nat.le_of_ble_eq_true rfl) ?_
  intro p_ e_ s_ m_ bl_ me_ c_ C hr hlocks h ls hl
  have hx := C.1.1
  have hb := C.1.2.1
  have hown : s_.vm.findClass RX2 = some m_.cls := C.1.2.2.2.1
  have hts := C.1.2.2.2.2
  have hl : lv_has ls 6 [(0, .ref (E.2.1 235)), (1, .int (nI p)), (2, .int (nI w)), (3, .int x3)] := hl
  refine lv_aload_n hx hb dX2_passOnceTaught_0 rfl (lv_at hl 0 rfl) ?_
  refine ur_get C h 235 (by decide) (uc_235 E _) (Cn := RX2) (T := TX2) (N := 5) rfl hin2 0 (by decide) (by decide +kernel) rfl dX2_passOnceTaught_1 ?_
  refine lv_aload_n hx hb dX2_passOnceTaught_4 rfl (lv_at hl 0 rfl) ?_
  refine ur_get C h 235 (by decide) (uc_235 E _) (Cn := RX2) (T := TX2) (N := 5) rfl hin2 0 (by decide) (by decide +kernel) rfl dX2_passOnceTaught_5 ?_
  refine ur_get C h 1 (by decide) (uc_1 E _) (Cn := RX1) (T := TX1) (N := 11) rfl hin1 8 (by decide) (by decide +kernel) rfl dX2_passOnceTaught_8 ?_
  refine ur_get C h 7 (by decide) (uc_7 E _) (Cn := RX3) (T := TX3) (N := 6) rfl hin3 4 (by decide) (by decide +kernel) rfl dX2_passOnceTaught_11 ?_
  refine ur_callVi C h (k := 1) (As := [.int (M.1 7 4)]) (rest := []) (k_X1_hearsIn l E hI M (M.1 7 4) ht) (cwV 1 hts gX2_passOnceTaught_X1_hearsIn rfl rfl rfl (by decide +kernel) ⟨Nat.le_of_ble_eq_true rfl, Nat.le_of_ble_eq_true rfl⟩) (by decide) (uc_1 E _) (T := TX1) (N := 11) rfl rfl hl.1 rfl (Nat.le_of_ble_eq_true rfl) dX2_passOnceTaught_14 (fun r_1 M_2 H locs hw_2 h => ?_)
  obtain ⟨hu, er_1⟩ := hw_2
  subst hu
  refine ur_eq (y := xHears (M.1 1 6) (M.1 1 7) (M.1 7 4)) er_1 ?_
  refine lv_topi (fun v_3 ev_3 => ?_)
  refine lv_istore (lv' := [(4, .int v_3), (0, .ref (E.2.1 235)), (1, .int (nI p)), (2, .int (nI w)), (3, .int x3)]) hx hb dX2_passOnceTaught_17 hl (by decide) rfl (fun ls hl => ?_)
  refine lv_aload_n hx hb dX2_passOnceTaught_19 rfl (lv_at hl 1 rfl) ?_
  refine ur_get C h 235 (by decide) (uc_235 E _) (Cn := RX2) (T := TX2) (N := 5) rfl hin2 0 (by decide) (by decide +kernel) rfl dX2_passOnceTaught_20 ?_
  refine ur_get C h 1 (by decide) (uc_1 E _) (Cn := RX1) (T := TX1) (N := 11) rfl hin1 8 (by decide) (by decide +kernel) rfl dX2_passOnceTaught_23 ?_
  refine ur_get C h 7 (by decide) (uc_7 E _) (Cn := RX3) (T := TX3) (N := 6) rfl hin3 1 (by decide) (by decide +kernel) rfl dX2_passOnceTaught_26 ?_
  refine lv_iload_n hx hb dX2_passOnceTaught_29 rfl (lv_at hl 2 rfl) ?_
  refine ur_iald C h 9 (by decide) (uc_9 E _) (p) (by omega) (by decide) dX2_passOnceTaught_30 ?_
  refine lv_iload_n hx hb dX2_passOnceTaught_31 rfl (lv_at hl 4 rfl) ?_
  refine lv_ior hx hb dX2_passOnceTaught_32 ?_
  refine lv_istore (lv' := [(5, .int ((M.1 9 p) ||| x3)), (4, .int v_3), (0, .ref (E.2.1 235)), (1, .int (nI p)), (2, .int (nI w)), (3, .int x3)]) hx hb dX2_passOnceTaught_33 hl (by decide) rfl (fun ls hl => ?_)
  refine lv_aload_n hx hb dX2_passOnceTaught_35 rfl (lv_at hl 2 rfl) ?_
  refine ur_get C h 235 (by decide) (uc_235 E _) (Cn := RX2) (T := TX2) (N := 5) rfl hin2 0 (by decide) (by decide +kernel) rfl dX2_passOnceTaught_36 ?_
  refine lv_iload_n hx hb dX2_passOnceTaught_39 rfl (lv_at hl 3 rfl) ?_
  refine lv_iload_n hx hb dX2_passOnceTaught_40 rfl (lv_at hl 4 rfl) ?_
  refine lv_iload hx hb dX2_passOnceTaught_41 (lv_at hl 1 rfl) ?_
  refine lv_iload hx hb dX2_passOnceTaught_43 (lv_at hl 0 rfl) ?_
  refine lv_aload_n hx hb dX2_passOnceTaught_45 rfl (lv_at hl 2 rfl) ?_
  refine ur_get C h 235 (by decide) (uc_235 E _) (Cn := RX2) (T := TX2) (N := 5) rfl hin2 0 (by decide) (by decide +kernel) rfl dX2_passOnceTaught_46 ?_
  refine ur_get C h 1 (by decide) (uc_1 E _) (Cn := RX1) (T := TX1) (N := 11) rfl hin1 8 (by decide) (by decide +kernel) rfl dX2_passOnceTaught_49 ?_
  refine ur_get C h 7 (by decide) (uc_7 E _) (Cn := RX3) (T := TX3) (N := 6) rfl hin3 2 (by decide) (by decide +kernel) rfl dX2_passOnceTaught_52 ?_
  refine lv_iload_n hx hb dX2_passOnceTaught_55 rfl (lv_at hl 4 rfl) ?_
  refine ur_iald C h 10 (by decide) (uc_10 E _) (w) (by omega) (by decide) dX2_passOnceTaught_56 ?_
  refine ur_callVi C h (k := 1) (As := [.int (nI p), .int (nI w), .int v_3, .int ((M.1 9 p) ||| x3), .int (M.1 10 w)]) (rest := []) (k_X1_passIf l E hI M p w v_3 ((M.1 9 p) ||| x3) (M.1 10 w) (by omega) (by omega)) (cwV 5 hts gX2_passOnceTaught_X1_passIf rfl rfl rfl (by decide +kernel) ⟨Nat.le_of_ble_eq_true rfl, Nat.le_of_ble_eq_true rfl⟩) (by decide) (uc_1 E _) (T := TX1) (N := 11) rfl rfl hl.1 rfl (Nat.le_of_ble_eq_true rfl) dX2_passOnceTaught_57 (fun r_4 M_5 H locs hw_5 h => ?_)
  obtain ⟨hu, er_4⟩ := hw_5
  subst hu
  refine ur_eq (y := xPassIf M p w v_3 ((M.1 9 p) ||| x3) (M.1 10 w)) er_4 ?_
  exact ur_iret C h hr hlocks (⟨rfl, by subst ev_3; rfl⟩) dX2_passOnceTaught_60
set_option maxHeartbeats 1000000 in
set_option maxRecDepth 100000 in
theorem k_X2_soundsToLearn (l : Launch) (E : uE) (hI : uI E) (M : uM) (p w nn o : Nat) (hp : p < 6) (hw : w < 6) (hn7 : nn ≤ 6) (ho : xOpen M p w = nI o) (ho6 : o < 64) (ht : ¬ M.1 1 7 = 0) : Met l yX2_soundsToLearn wsX2_soundsToLearn ({ frames := 5, cells := 0, slots := 0, locals := 122 }) (va_Pc [.ref (E.2.1 235), .int (nI p), .int (nI w), .int (nI nn)] (uB E M)) (va_Qi (fun r u => M = u ∧ r = nI (xLearn (xOk o nn) (fun s => xTaught M p w (nI s)) o).1) (uP E) (uA E)) 0 0 (uA E) := by
  have hin1 : ∀ w ∈ wsX10, w ∈ wsX2_soundsToLearn := by decide +kernel
  have hin2 : ∀ w ∈ wsX20, w ∈ wsX2_soundsToLearn := by decide +kernel
  have hin3 : ∀ w ∈ wsX30, w ∈ wsX2_soundsToLearn := by decide +kernel
  refine u_start (cc := cX2_soundsToLearn) (maxL := 10) (ret := (some .int)) hI (by decide) rfl (Nat.le_of_ble_eq_true rfl) ?_
  intro p_ e_ s_ m_ bl_ me_ c_ C hr hlocks h ls hl
  have hx := C.1.1
  have hb := C.1.2.1
  have hown : s_.vm.findClass RX2 = some m_.cls := C.1.2.2.2.1
  have hts := C.1.2.2.2.2
  have hl : lv_has ls 10 [(0, .ref (E.2.1 235)), (1, .int (nI p)), (2, .int (nI w)), (3, .int (nI nn))] := hl
  refine lv_aload_n hx hb dX2_soundsToLearn_0 rfl (lv_at hl 0 rfl) ?_
  refine ur_get C h 235 (by decide) (uc_235 E _) (Cn := RX2) (T := TX2) (N := 5) rfl hin2 0 (by decide) (by decide +kernel) rfl dX2_soundsToLearn_1 ?_
  refine ur_get C h 1 (by decide) (uc_1 E _) (Cn := RX1) (T := TX1) (N := 11) rfl hin1 5 (by decide) (by decide +kernel) rfl dX2_soundsToLearn_4 ?_
  refine lv_iload_n hx hb dX2_soundsToLearn_7 rfl (lv_at hl 2 rfl) ?_
  refine ur_iald C h 5 (by decide) (uc_5 E _) (w) (by omega) (by decide) dX2_soundsToLearn_8 ?_
  refine lv_aload_n hx hb dX2_soundsToLearn_9 rfl (lv_at hl 0 rfl) ?_
  refine ur_get C h 235 (by decide) (uc_235 E _) (Cn := RX2) (T := TX2) (N := 5) rfl hin2 0 (by decide) (by decide +kernel) rfl dX2_soundsToLearn_10 ?_
  refine ur_get C h 1 (by decide) (uc_1 E _) (Cn := RX1) (T := TX1) (N := 11) rfl hin1 8 (by decide) (by decide +kernel) rfl dX2_soundsToLearn_13 ?_
  refine ur_get C h 7 (by decide) (uc_7 E _) (Cn := RX3) (T := TX3) (N := 6) rfl hin3 1 (by decide) (by decide +kernel) rfl dX2_soundsToLearn_16 ?_
  refine lv_iload_n hx hb dX2_soundsToLearn_19 rfl (lv_at hl 1 rfl) ?_
  refine ur_iald C h 9 (by decide) (uc_9 E _) (p) (by omega) (by decide) dX2_soundsToLearn_20 ?_
  refine lv_iconst (v := (-1)) hx hb dX2_soundsToLearn_21 (by decide) ?_
  refine lv_ixor hx hb dX2_soundsToLearn_22 ?_
  refine lv_iand hx hb dX2_soundsToLearn_23 ?_
  refine ur_eq (y := nI o) ho ?_
  refine lv_istore (lv' := [(4, .int (nI o)), (0, .ref (E.2.1 235)), (1, .int (nI p)), (2, .int (nI w)), (3, .int (nI nn))]) hx hb dX2_soundsToLearn_24 hl (by decide) rfl (fun ls hl => ?_)
  refine lv_iconst (v := 0) hx hb dX2_soundsToLearn_26 (by decide) ?_
  refine lv_istore (lv' := [(5, .int 0), (4, .int (nI o)), (0, .ref (E.2.1 235)), (1, .int (nI p)), (2, .int (nI w)), (3, .int (nI nn))]) hx hb dX2_soundsToLearn_27 hl (by decide) rfl (fun ls hl => ?_)
  refine lv_aload_n hx hb dX2_soundsToLearn_29 rfl (lv_at hl 2 rfl) ?_
  refine lv_iload_n hx hb dX2_soundsToLearn_30 rfl (lv_at hl 3 rfl) ?_
  refine lv_iload_n hx hb dX2_soundsToLearn_31 rfl (lv_at hl 4 rfl) ?_
  refine lv_iconst (v := 0) hx hb dX2_soundsToLearn_32 (by decide) ?_
  refine ur_callVi C h (k := 235) (As := [.int (nI p), .int (nI w), .int 0]) (rest := []) (k_X2_passOnceTaught l E hI M p w 0 (by omega) (by omega) ht) (cwV 3 hts gX2_soundsToLearn_X2_passOnceTaught rfl rfl rfl (by decide +kernel) ⟨Nat.le_of_ble_eq_true rfl, Nat.le_of_ble_eq_true rfl⟩) (by decide) (uc_235 E _) (T := TX2) (N := 5) rfl rfl hl.1 rfl (Nat.le_of_ble_eq_true rfl) dX2_soundsToLearn_33 (fun r_1 M_2 H locs hw_2 h => ?_)
  obtain ⟨hu, er_1⟩ := hw_2
  subst hu
  refine ur_eq (y := xTaught M p w 0) er_1 ?_
  refine lv_istore (lv' := [(6, .int (xTaught M p w 0)), (5, .int 0), (4, .int (nI o)), (0, .ref (E.2.1 235)), (1, .int (nI p)), (2, .int (nI w)), (3, .int (nI nn))]) hx hb dX2_soundsToLearn_36 hl (by decide) rfl (fun ls hl => ?_)
  refine lv_iconst (v := 1) hx hb dX2_soundsToLearn_38 (by decide) ?_
  refine lv_istore (lv' := [(7, .int 1), (6, .int (xTaught M p w 0)), (5, .int 0), (4, .int (nI o)), (0, .ref (E.2.1 235)), (1, .int (nI p)), (2, .int (nI w)), (3, .int (nI nn))]) hx hb dX2_soundsToLearn_39 hl (by decide) rfl (fun ls hl => ?_)
  have lp41 : ∀ (n41 : Nat) (i b0 : Nat) (v0 : Int32), o - i < n41 → i ≤ o → (b0, v0) = xLearn (xOk o nn) (fun s => xTaught M p w (nI s)) i → b0 ≤ i → ∀ (H : Heap) (locs : List Loc) (ls : Array Slot), uH E M s_ H locs → lv_has ls 10 [(7, .int (nI (1 + i))), (6, .int v0), (5, .int (nI b0)), (4, .int (nI o)), (0, .ref (E.2.1 235)), (1, .int (nI p)), (2, .int (nI w)), (3, .int (nI nn))] → W p_ l e_ ({ frames := 5, cells := 0, slots := 0, locals := 122 }) s_ m_ (List.toArray [.ref (E.2.1 235), .int (nI p), .int (nI w), .int (nI nn)]) bl_ me_ c_ H locs 0 0 (MQ bl_ (va_Qi (fun r u => M = u ∧ r = nI (xLearn (xOk o nn) (fun s => xTaught M p w (nI s)) o).1) (uP E) (uA E)) (List.toArray [.ref (E.2.1 235), .int (nI p), .int (nI w), .int (nI nn)]) s_ 0 0 (uA E)) (F0 m_ 41 ls []) := by
    intro n41
    induction n41 with
    | zero => intro i b0 v0 hms; exact absurd hms (Nat.not_lt_zero _)
    | succ n41 ih41 =>
      intro i b0 v0 hms41 hi hbl hb0 H locs ls h hl
      refine lv_iload hx hb dX2_soundsToLearn_41 (lv_at hl 0 rfl) ?_
      refine lv_iload hx hb dX2_soundsToLearn_43 (lv_at hl 3 rfl) ?_
      refine lv_icmp_gt (tgt := 122) hx hb dX2_soundsToLearn_45 (by decide) (fun c_3 => ?_) (fun c_3 => ?_)
      · skip
        have c_3 : o < (1 + i) := (nI_ltI (a := o) (b := (1 + i)) (by omega) (by omega)).mp c_3
        refine lv_iload hx hb dX2_soundsToLearn_122 (lv_at hl 2 rfl) ?_
        exact ur_iret C h hr hlocks (⟨rfl, by have hio : i = o := (by omega); subst hio; rw [← hbl]⟩) dX2_soundsToLearn_124
      · skip
        have c_3 : ¬ o < (1 + i) := fun z => c_3 ((nI_ltI (a := o) (b := (1 + i)) (by omega) (by omega)).mpr z)
        refine lv_iload hx hb dX2_soundsToLearn_48 (lv_at hl 0 rfl) ?_
        refine ur_callSi C h (As := [.int (nI (1 + i))]) (rest := []) (k_J6_bitCount_0f7a4 l E hI M (1 + i) (by omega)) (va_cwS 1 hts gX2_soundsToLearn_J6_bitCount_0f7a4 rfl rfl rfl (by decide +kernel) ⟨Nat.le_of_ble_eq_true rfl, Nat.le_of_ble_eq_true rfl⟩) rfl hl.1 rfl (Nat.le_of_ble_eq_true rfl) dX2_soundsToLearn_50 (fun r_4 M_5 H locs hw_5 h => ?_)
        obtain ⟨hu, er_4⟩ := hw_5
        subst hu
        refine ur_eq (y := nI (pop (1 + i))) er_4 ?_
        have hpr_4 : pop (1 + i) ≤ 6 := pop6 (by omega)
        refine lv_istore (lv' := [(8, .int (nI (pop (1 + i)))), (7, .int (nI (1 + i))), (6, .int v0), (5, .int (nI b0)), (4, .int (nI o)), (0, .ref (E.2.1 235)), (1, .int (nI p)), (2, .int (nI w)), (3, .int (nI nn))]) hx hb dX2_soundsToLearn_53 hl (by decide) rfl (fun ls hl => ?_)
        refine lv_iload hx hb dX2_soundsToLearn_55 (lv_at hl 1 rfl) ?_
        refine lv_iload hx hb dX2_soundsToLearn_57 (lv_at hl 4 rfl) ?_
        refine lv_iconst (v := (-1)) hx hb dX2_soundsToLearn_59 (by decide) ?_
        refine lv_ixor hx hb dX2_soundsToLearn_60 ?_
        refine lv_iand hx hb dX2_soundsToLearn_61 ?_
        refine lv_if_ne (tgt := 116) hx hb dX2_soundsToLearn_62 (by decide) (fun c_6 => ?_) (fun c_6 => ?_)
        · skip
          refine lv_iinc (v := nI (1 + i + 1)) (lv' := [(7, .int (nI (1 + i + 1))), (8, .int (nI (pop (1 + i)))), (6, .int v0), (5, .int (nI b0)), (4, .int (nI o)), (0, .ref (E.2.1 235)), (1, .int (nI p)), (2, .int (nI w)), (3, .int (nI nn))]) hx hb dX2_soundsToLearn_116 hl (k := 1) rfl (nI_add (1 + i) 1) (by decide) rfl (fun ls hl => ?_)
          refine lv_goto (tgt := 41) hx hb dX2_soundsToLearn_119 (by decide) ?_
          exact ih41  (i + 1) b0 v0 (by omega) (by omega) (by rw [xLearn, ← hbl]; dsimp only; rw [if_neg (fun z => c_6 (by have := (xOk_iff.mp z.1).1; rwa [Nat.add_comm] at this))]) (by omega) _ _ _ h (lv_sub hl [0, 2, 3, 4, 5, 6, 7, 8] rfl)
        · skip
          refine lv_iload hx hb dX2_soundsToLearn_65 (lv_at hl 0 rfl) ?_
          refine lv_iload_n hx hb dX2_soundsToLearn_67 rfl (lv_at hl 8 rfl) ?_
          refine lv_icmp_le (tgt := 74) hx hb dX2_soundsToLearn_68 (by decide) (fun c_7 => ?_) (fun c_7 => ?_)
          · skip
            have c_7 : (pop (1 + i)) ≤ nn := (nI_leI (a := (pop (1 + i))) (b := nn) (by omega) (by omega)).mp c_7
            refine lv_aload_n hx hb dX2_soundsToLearn_74 rfl (lv_at hl 5 rfl) ?_
            refine lv_iload_n hx hb dX2_soundsToLearn_75 rfl (lv_at hl 6 rfl) ?_
            refine lv_iload_n hx hb dX2_soundsToLearn_76 rfl (lv_at hl 7 rfl) ?_
            refine lv_iload hx hb dX2_soundsToLearn_77 (lv_at hl 1 rfl) ?_
            refine ur_callVi C h (k := 235) (As := [.int (nI p), .int (nI w), .int (nI (1 + i))]) (rest := []) (k_X2_passOnceTaught l E hI M p w (nI (1 + i)) (by omega) (by omega) ht) (cwV 3 hts gX2_soundsToLearn_X2_passOnceTaught rfl rfl rfl (by decide +kernel) ⟨Nat.le_of_ble_eq_true rfl, Nat.le_of_ble_eq_true rfl⟩) (by decide) (uc_235 E _) (T := TX2) (N := 5) rfl rfl hl.1 rfl (Nat.le_of_ble_eq_true rfl) dX2_soundsToLearn_79 (fun r_8 M_9 H locs hw_9 h => ?_)
            obtain ⟨hu, er_8⟩ := hw_9
            subst hu
            refine ur_eq (y := xTaught M p w (nI (1 + i))) er_8 ?_
            refine lv_topi (fun v_10 ev_10 => ?_)
            refine lv_istore (lv' := [(9, .int v_10), (8, .int (nI (pop (1 + i)))), (7, .int (nI (1 + i))), (6, .int v0), (5, .int (nI b0)), (4, .int (nI o)), (0, .ref (E.2.1 235)), (1, .int (nI p)), (2, .int (nI w)), (3, .int (nI nn))]) hx hb dX2_soundsToLearn_82 hl (by decide) rfl (fun ls hl => ?_)
            refine lv_iload hx hb dX2_soundsToLearn_84 (lv_at hl 0 rfl) ?_
            refine lv_iload hx hb dX2_soundsToLearn_86 (lv_at hl 3 rfl) ?_
            refine lv_icmp_gt (tgt := 108) hx hb dX2_soundsToLearn_88 (by decide) (fun c_11 => ?_) (fun c_11 => ?_)
            · skip
              refine lv_iload hx hb dX2_soundsToLearn_108 (lv_at hl 2 rfl) ?_
              refine lv_istore (lv' := [(5, .int (nI (1 + i))), (9, .int v_10), (8, .int (nI (pop (1 + i)))), (7, .int (nI (1 + i))), (6, .int v0), (4, .int (nI o)), (0, .ref (E.2.1 235)), (1, .int (nI p)), (2, .int (nI w)), (3, .int (nI nn))]) hx hb dX2_soundsToLearn_110 hl (by decide) rfl (fun ls hl => ?_)
              refine lv_iload hx hb dX2_soundsToLearn_112 (lv_at hl 1 rfl) ?_
              refine lv_istore (lv' := [(6, .int v_10), (5, .int (nI (1 + i))), (9, .int v_10), (8, .int (nI (pop (1 + i)))), (7, .int (nI (1 + i))), (4, .int (nI o)), (0, .ref (E.2.1 235)), (1, .int (nI p)), (2, .int (nI w)), (3, .int (nI nn))]) hx hb dX2_soundsToLearn_114 hl (by decide) rfl (fun ls hl => ?_)
              refine lv_iinc (v := nI (1 + i + 1)) (lv' := [(7, .int (nI (1 + i + 1))), (6, .int v_10), (5, .int (nI (1 + i))), (9, .int v_10), (8, .int (nI (pop (1 + i)))), (4, .int (nI o)), (0, .ref (E.2.1 235)), (1, .int (nI p)), (2, .int (nI w)), (3, .int (nI nn))]) hx hb dX2_soundsToLearn_116 hl (k := 4) rfl (nI_add (1 + i) 1) (by decide) rfl (fun ls hl => ?_)
              refine lv_goto (tgt := 41) hx hb dX2_soundsToLearn_119 (by decide) ?_
              exact ih41  (i + 1) (1 + i) v_10 (by omega) (by omega) (by subst ev_10; rw [xLearn, ← hbl]; dsimp only; rw [if_pos ⟨xOk_iff.mpr (by rw [Nat.add_comm]; exact ⟨c_6, by omega⟩), Or.inl (by rw [Nat.add_comm]; exact Int32.not_le.mpr c_11)⟩, Nat.add_comm i 1]) (by omega) _ _ _ h (lv_sub hl [0, 1, 2, 5, 6, 7, 8, 9] rfl)
            · skip
              refine lv_iload hx hb dX2_soundsToLearn_91 (lv_at hl 0 rfl) ?_
              refine lv_iload hx hb dX2_soundsToLearn_93 (lv_at hl 3 rfl) ?_
              refine lv_icmp_ne (tgt := 116) hx hb dX2_soundsToLearn_95 (by decide) (fun c_12 => ?_) (fun c_12 => ?_)
              · skip
                refine lv_iinc (v := nI (1 + i + 1)) (lv' := [(7, .int (nI (1 + i + 1))), (9, .int v_10), (8, .int (nI (pop (1 + i)))), (6, .int v0), (5, .int (nI b0)), (4, .int (nI o)), (0, .ref (E.2.1 235)), (1, .int (nI p)), (2, .int (nI w)), (3, .int (nI nn))]) hx hb dX2_soundsToLearn_116 hl (k := 2) rfl (nI_add (1 + i) 1) (by decide) rfl (fun ls hl => ?_)
                refine lv_goto (tgt := 41) hx hb dX2_soundsToLearn_119 (by decide) ?_
                exact ih41  (i + 1) b0 v0 (by omega) (by omega) (by subst ev_10; rw [xLearn, ← hbl]; dsimp only; rw [if_neg (fun z => by have z2 := z.2; rw [Nat.add_comm i 1] at z2; rcases z2 with z | z; exact z (Int32.not_lt.mp c_11); exact c_12 z.1)]) (by omega) _ _ _ h (lv_sub hl [0, 3, 4, 5, 6, 7, 8, 9] rfl)
              · skip
                refine lv_iload hx hb dX2_soundsToLearn_98 (lv_at hl 1 rfl) ?_
                refine lv_iload hx hb dX2_soundsToLearn_100 (lv_at hl 4 rfl) ?_
                refine ur_callSi C h (As := [.int (nI b0)]) (rest := [.int (nI (pop (1 + i)))]) (k_J6_bitCount_0f7a4 l E hI M b0 (by omega)) (va_cwS 1 hts gX2_soundsToLearn_J6_bitCount_0f7a4 rfl rfl rfl (by decide +kernel) ⟨Nat.le_of_ble_eq_true rfl, Nat.le_of_ble_eq_true rfl⟩) rfl hl.1 rfl (Nat.le_of_ble_eq_true rfl) dX2_soundsToLearn_102 (fun r_13 M_14 H locs hw_14 h => ?_)
                obtain ⟨hu, er_13⟩ := hw_14
                subst hu
                refine ur_eq (y := nI (pop b0)) er_13 ?_
                have hpr_13 : pop b0 ≤ 6 := pop6 (by omega)
                refine lv_icmp_ge (tgt := 116) hx hb dX2_soundsToLearn_105 (by decide) (fun c_15 => ?_) (fun c_15 => ?_)
                · skip
                  have c_15 : (pop b0) ≤ (pop (1 + i)) := (nI_leI (a := (pop b0)) (b := (pop (1 + i))) (by omega) (by omega)).mp c_15
                  refine lv_iinc (v := nI (1 + i + 1)) (lv' := [(7, .int (nI (1 + i + 1))), (9, .int v_10), (8, .int (nI (pop (1 + i)))), (6, .int v0), (5, .int (nI b0)), (4, .int (nI o)), (0, .ref (E.2.1 235)), (1, .int (nI p)), (2, .int (nI w)), (3, .int (nI nn))]) hx hb dX2_soundsToLearn_116 hl (k := 2) rfl (nI_add (1 + i) 1) (by decide) rfl (fun ls hl => ?_)
                  refine lv_goto (tgt := 41) hx hb dX2_soundsToLearn_119 (by decide) ?_
                  exact ih41  (i + 1) b0 v0 (by omega) (by omega) (by subst ev_10; rw [xLearn, ← hbl]; dsimp only; rw [if_neg (fun z => by have z2 := z.2; rw [Nat.add_comm i 1] at z2; rcases z2 with z | z; exact z (Int32.not_lt.mp c_11); have := z.2; omega)]) (by omega) _ _ _ h (lv_sub hl [0, 3, 4, 5, 6, 7, 8, 9] rfl)
                · skip
                  have c_15 : ¬ (pop b0) ≤ (pop (1 + i)) := fun z => c_15 ((nI_leI (a := (pop b0)) (b := (pop (1 + i))) (by omega) (by omega)).mpr z)
                  refine lv_iload hx hb dX2_soundsToLearn_108 (lv_at hl 2 rfl) ?_
                  refine lv_istore (lv' := [(5, .int (nI (1 + i))), (9, .int v_10), (8, .int (nI (pop (1 + i)))), (7, .int (nI (1 + i))), (6, .int v0), (4, .int (nI o)), (0, .ref (E.2.1 235)), (1, .int (nI p)), (2, .int (nI w)), (3, .int (nI nn))]) hx hb dX2_soundsToLearn_110 hl (by decide) rfl (fun ls hl => ?_)
                  refine lv_iload hx hb dX2_soundsToLearn_112 (lv_at hl 1 rfl) ?_
                  refine lv_istore (lv' := [(6, .int v_10), (5, .int (nI (1 + i))), (9, .int v_10), (8, .int (nI (pop (1 + i)))), (7, .int (nI (1 + i))), (4, .int (nI o)), (0, .ref (E.2.1 235)), (1, .int (nI p)), (2, .int (nI w)), (3, .int (nI nn))]) hx hb dX2_soundsToLearn_114 hl (by decide) rfl (fun ls hl => ?_)
                  refine lv_iinc (v := nI (1 + i + 1)) (lv' := [(7, .int (nI (1 + i + 1))), (6, .int v_10), (5, .int (nI (1 + i))), (9, .int v_10), (8, .int (nI (pop (1 + i)))), (4, .int (nI o)), (0, .ref (E.2.1 235)), (1, .int (nI p)), (2, .int (nI w)), (3, .int (nI nn))]) hx hb dX2_soundsToLearn_116 hl (k := 4) rfl (nI_add (1 + i) 1) (by decide) rfl (fun ls hl => ?_)
                  refine lv_goto (tgt := 41) hx hb dX2_soundsToLearn_119 (by decide) ?_
                  exact ih41  (i + 1) (1 + i) v_10 (by omega) (by omega) (by subst ev_10; rw [xLearn, ← hbl]; dsimp only; rw [if_pos ⟨xOk_iff.mpr (by rw [Nat.add_comm]; exact ⟨c_6, by omega⟩), Or.inr (by rw [Nat.add_comm i 1]; exact ⟨c_12, by omega⟩)⟩, Nat.add_comm i 1]) (by omega) _ _ _ h (lv_sub hl [0, 1, 2, 5, 6, 7, 8, 9] rfl)
          · skip
            have c_7 : ¬ (pop (1 + i)) ≤ nn := fun z => c_7 ((nI_leI (a := (pop (1 + i))) (b := nn) (by omega) (by omega)).mpr z)
            refine lv_goto (tgt := 116) hx hb dX2_soundsToLearn_71 (by decide) ?_
            refine lv_iinc (v := nI (1 + i + 1)) (lv' := [(7, .int (nI (1 + i + 1))), (8, .int (nI (pop (1 + i)))), (6, .int v0), (5, .int (nI b0)), (4, .int (nI o)), (0, .ref (E.2.1 235)), (1, .int (nI p)), (2, .int (nI w)), (3, .int (nI nn))]) hx hb dX2_soundsToLearn_116 hl (k := 1) rfl (nI_add (1 + i) 1) (by decide) rfl (fun ls hl => ?_)
            refine lv_goto (tgt := 41) hx hb dX2_soundsToLearn_119 (by decide) ?_
            exact ih41  (i + 1) b0 v0 (by omega) (by omega) (by rw [xLearn, ← hbl]; dsimp only; rw [if_neg (fun z => by have := (xOk_iff.mp z.1).2; rw [Nat.add_comm] at this; omega)]) (by omega) _ _ _ h (lv_sub hl [0, 2, 3, 4, 5, 6, 7, 8] rfl)
  exact lp41 _ 0 0 (xTaught M p w 0) (Nat.lt_succ_self _) (by omega) (by rfl) (by omega) _ _ _ h (lv_sub hl [0, 1, 2, 3, 4, 5, 6, 7] rfl)
set_option maxHeartbeats 1000000 in
set_option maxRecDepth 100000 in
theorem k_X2_hourToCross (l : Launch) (E : uE) (hI : uI E) (M : uM) (p w h0 : Nat) (hp : p < 6) (hw : w < 6) (hh : M.1 7 4 = nI h0) (hh9 : h0 ≤ 9999) (ht : ¬ M.1 1 7 = 0) : Met l yX2_hourToCross wsX2_hourToCross ({ frames := 5, cells := 0, slots := 0, locals := 120 }) (va_Pc [.ref (E.2.1 235), .int (nI p), .int (nI w)] (uB E M)) (va_Qi (fun r u => M = u ∧ r = uCross (xPassIn M p w) (nI h0) 23) (uP E) (uA E)) 0 0 (uA E) := by
  have hin1 : ∀ w ∈ wsX10, w ∈ wsX2_hourToCross := by decide +kernel
  have hin2 : ∀ w ∈ wsX20, w ∈ wsX2_hourToCross := by decide +kernel
  have hin3 : ∀ w ∈ wsX30, w ∈ wsX2_hourToCross := by decide +kernel
  refine u_start (cc := cX2_hourToCross) (maxL := 8) (ret := (some .int)) hI (by decide) rfl (Nat.le_of_ble_eq_true rfl) ?_
  intro p_ e_ s_ m_ bl_ me_ c_ C hr hlocks h ls hl
  have hx := C.1.1
  have hb := C.1.2.1
  have hown : s_.vm.findClass RX2 = some m_.cls := C.1.2.2.2.1
  have hts := C.1.2.2.2.2
  have hl : lv_has ls 8 [(0, .ref (E.2.1 235)), (1, .int (nI p)), (2, .int (nI w))] := hl
  refine lv_aload_n hx hb dX2_hourToCross_0 rfl (lv_at hl 0 rfl) ?_
  refine ur_get C h 235 (by decide) (uc_235 E _) (Cn := RX2) (T := TX2) (N := 5) rfl hin2 0 (by decide) (by decide +kernel) rfl dX2_hourToCross_1 ?_
  refine ur_get C h 1 (by decide) (uc_1 E _) (Cn := RX1) (T := TX1) (N := 11) rfl hin1 8 (by decide) (by decide +kernel) rfl dX2_hourToCross_4 ?_
  refine ur_get C h 7 (by decide) (uc_7 E _) (Cn := RX3) (T := TX3) (N := 6) rfl hin3 4 (by decide) (by decide +kernel) rfl dX2_hourToCross_7 ?_
  refine ur_eq (y := nI h0) (hh) ?_
  refine lv_istore_n (lv' := [(3, .int (nI h0)), (0, .ref (E.2.1 235)), (1, .int (nI p)), (2, .int (nI w))]) hx hb dX2_hourToCross_10 rfl hl (by decide) rfl (fun ls hl => ?_)
  refine lv_iload_n hx hb dX2_hourToCross_11 rfl (lv_at hl 0 rfl) ?_
  refine lv_istore (lv' := [(4, .int (nI h0)), (3, .int (nI h0)), (0, .ref (E.2.1 235)), (1, .int (nI p)), (2, .int (nI w))]) hx hb dX2_hourToCross_12 hl (by decide) rfl (fun ls hl => ?_)
  refine lv_aload_n hx hb dX2_hourToCross_14 rfl (lv_at hl 2 rfl) ?_
  refine ur_get C h 235 (by decide) (uc_235 E _) (Cn := RX2) (T := TX2) (N := 5) rfl hin2 0 (by decide) (by decide +kernel) rfl dX2_hourToCross_15 ?_
  refine lv_iload_n hx hb dX2_hourToCross_18 rfl (lv_at hl 3 rfl) ?_
  refine lv_iload_n hx hb dX2_hourToCross_19 rfl (lv_at hl 4 rfl) ?_
  refine lv_iload_n hx hb dX2_hourToCross_20 rfl (lv_at hl 1 rfl) ?_
  refine ur_callVi C h (k := 1) (As := [.int (nI p), .int (nI w), .int (nI h0)]) (rest := []) (k_X1_passIn l E hI M p w (nI h0) (by omega) (by omega) ht) (cwV 3 hts gX2_hourToCross_X1_passIn rfl rfl rfl (by decide +kernel) ⟨Nat.le_of_ble_eq_true rfl, Nat.le_of_ble_eq_true rfl⟩) (by decide) (uc_1 E _) (T := TX1) (N := 11) rfl rfl hl.1 rfl (Nat.le_of_ble_eq_true rfl) dX2_hourToCross_21 (fun r_1 M_2 H locs hw_2 h => ?_)
  obtain ⟨hu, er_1⟩ := hw_2
  subst hu
  refine ur_eq (y := xPassIn M p w (nI h0)) er_1 ?_
  refine lv_istore (lv' := [(5, .int (xPassIn M p w (nI h0))), (4, .int (nI h0)), (3, .int (nI h0)), (0, .ref (E.2.1 235)), (1, .int (nI p)), (2, .int (nI w))]) hx hb dX2_hourToCross_24 hl (by decide) rfl (fun ls hl => ?_)
  refine lv_iload_n hx hb dX2_hourToCross_26 rfl (lv_at hl 2 rfl) ?_
  refine lv_iconst (v := 1) hx hb dX2_hourToCross_27 (by decide) ?_
  refine lv_iadd hx hb dX2_hourToCross_28 ?_
  refine ur_eq (y := nI (h0 + 1)) (nI_add h0 1) ?_
  refine lv_istore (lv' := [(6, .int (nI (h0 + 1))), (5, .int (xPassIn M p w (nI h0))), (4, .int (nI h0)), (3, .int (nI h0)), (0, .ref (E.2.1 235)), (1, .int (nI p)), (2, .int (nI w))]) hx hb dX2_hourToCross_29 hl (by decide) rfl (fun ls hl => ?_)
  have lp31 : ∀ (n31 : Nat) (i : Nat) (bs bp : Int32), 23 - i < n31 → i ≤ 23 → bs = uCross (xPassIn M p w) (nI h0) i → bp = xPassIn M p w bs → ∀ (H : Heap) (locs : List Loc) (ls : Array Slot), uH E M s_ H locs → lv_has ls 8 [(6, .int (nI (h0 + 1 + i))), (5, .int bp), (4, .int bs), (3, .int (nI h0)), (0, .ref (E.2.1 235)), (1, .int (nI p)), (2, .int (nI w))] → W p_ l e_ ({ frames := 5, cells := 0, slots := 0, locals := 120 }) s_ m_ (List.toArray [.ref (E.2.1 235), .int (nI p), .int (nI w)]) bl_ me_ c_ H locs 0 0 (MQ bl_ (va_Qi (fun r u => M = u ∧ r = uCross (xPassIn M p w) (nI h0) 23) (uP E) (uA E)) (List.toArray [.ref (E.2.1 235), .int (nI p), .int (nI w)]) s_ 0 0 (uA E)) (F0 m_ 31 ls []) := by
    intro n31
    induction n31 with
    | zero => intro i bs bp hms; exact absurd hms (Nat.not_lt_zero _)
    | succ n31 ih31 =>
      intro i bs bp hms31 hi hbs hbp H locs ls h hl
      refine lv_iload hx hb dX2_hourToCross_31 (lv_at hl 0 rfl) ?_
      refine lv_iload_n hx hb dX2_hourToCross_33 rfl (lv_at hl 3 rfl) ?_
      refine lv_bipush (v := 24) hx hb dX2_hourToCross_34 (by decide) ?_
      refine lv_iadd hx hb dX2_hourToCross_36 ?_
      refine ur_eq (y := nI (h0 + 24)) (nI_add h0 24) ?_
      refine lv_icmp_ge (tgt := 74) hx hb dX2_hourToCross_37 (by decide) (fun c_3 => ?_) (fun c_3 => ?_)
      · skip
        have c_3 : (h0 + 24) ≤ (h0 + 1 + i) := (nI_leI (a := (h0 + 24)) (b := (h0 + 1 + i)) (by omega) (by omega)).mp c_3
        refine lv_iload hx hb dX2_hourToCross_74 (lv_at hl 2 rfl) ?_
        exact ur_iret C h hr hlocks (⟨rfl, by rw [hbs, show i = 23 by omega]⟩) dX2_hourToCross_76
      · skip
        have c_3 : ¬ (h0 + 24) ≤ (h0 + 1 + i) := fun z => c_3 ((nI_leI (a := (h0 + 24)) (b := (h0 + 1 + i)) (by omega) (by omega)).mpr z)
        refine lv_aload_n hx hb dX2_hourToCross_40 rfl (lv_at hl 4 rfl) ?_
        refine ur_get C h 235 (by decide) (uc_235 E _) (Cn := RX2) (T := TX2) (N := 5) rfl hin2 0 (by decide) (by decide +kernel) rfl dX2_hourToCross_41 ?_
        refine lv_iload_n hx hb dX2_hourToCross_44 rfl (lv_at hl 5 rfl) ?_
        refine lv_iload_n hx hb dX2_hourToCross_45 rfl (lv_at hl 6 rfl) ?_
        refine lv_iload hx hb dX2_hourToCross_46 (lv_at hl 0 rfl) ?_
        refine ur_callVi C h (k := 1) (As := [.int (nI p), .int (nI w), .int (nI (h0 + 1 + i))]) (rest := []) (k_X1_passIn l E hI M p w (nI (h0 + 1 + i)) (by omega) (by omega) ht) (cwV 3 hts gX2_hourToCross_X1_passIn rfl rfl rfl (by decide +kernel) ⟨Nat.le_of_ble_eq_true rfl, Nat.le_of_ble_eq_true rfl⟩) (by decide) (uc_1 E _) (T := TX1) (N := 11) rfl rfl hl.1 rfl (Nat.le_of_ble_eq_true rfl) dX2_hourToCross_48 (fun r_4 M_5 H locs hw_5 h => ?_)
        obtain ⟨hu, er_4⟩ := hw_5
        subst hu
        refine ur_eq (y := xPassIn M p w (nI (h0 + 1 + i))) er_4 ?_
        refine lv_topi (fun v_6 ev_6 => ?_)
        refine lv_istore (lv' := [(7, .int v_6), (6, .int (nI (h0 + 1 + i))), (5, .int bp), (4, .int bs), (3, .int (nI h0)), (0, .ref (E.2.1 235)), (1, .int (nI p)), (2, .int (nI w))]) hx hb dX2_hourToCross_51 hl (by decide) rfl (fun ls hl => ?_)
        refine lv_iload hx hb dX2_hourToCross_53 (lv_at hl 0 rfl) ?_
        refine lv_iload hx hb dX2_hourToCross_55 (lv_at hl 2 rfl) ?_
        refine lv_icmp_le (tgt := 68) hx hb dX2_hourToCross_57 (by decide) (fun c_7 => ?_) (fun c_7 => ?_)
        · skip
          refine lv_iinc (v := nI (h0 + 1 + i + 1)) (lv' := [(6, .int (nI (h0 + 1 + i + 1))), (7, .int v_6), (5, .int bp), (4, .int bs), (3, .int (nI h0)), (0, .ref (E.2.1 235)), (1, .int (nI p)), (2, .int (nI w))]) hx hb dX2_hourToCross_68 hl (k := 1) rfl (nI_add (h0 + 1 + i) 1) (by decide) rfl (fun ls hl => ?_)
          refine lv_goto (tgt := 31) hx hb dX2_hourToCross_71 (by decide) ?_
          exact ih31  (i + 1) bs bp (by omega) (by omega) (by subst ev_6; rw [uCross, show nI h0 + nI (i + 1) = nI (h0 + 1 + i) by rw [nI_add]; congr 1; omega, ← hbs, if_pos (by rw [← hbp]; exact c_7)]) hbp _ _ _ h (lv_sub hl [0, 2, 3, 4, 5, 6, 7] rfl)
        · skip
          refine lv_iload hx hb dX2_hourToCross_60 (lv_at hl 1 rfl) ?_
          refine lv_istore (lv' := [(4, .int (nI (h0 + 1 + i))), (7, .int v_6), (6, .int (nI (h0 + 1 + i))), (5, .int bp), (3, .int (nI h0)), (0, .ref (E.2.1 235)), (1, .int (nI p)), (2, .int (nI w))]) hx hb dX2_hourToCross_62 hl (by decide) rfl (fun ls hl => ?_)
          refine lv_iload hx hb dX2_hourToCross_64 (lv_at hl 1 rfl) ?_
          refine lv_istore (lv' := [(5, .int v_6), (4, .int (nI (h0 + 1 + i))), (7, .int v_6), (6, .int (nI (h0 + 1 + i))), (3, .int (nI h0)), (0, .ref (E.2.1 235)), (1, .int (nI p)), (2, .int (nI w))]) hx hb dX2_hourToCross_66 hl (by decide) rfl (fun ls hl => ?_)
          refine lv_iinc (v := nI (h0 + 1 + i + 1)) (lv' := [(6, .int (nI (h0 + 1 + i + 1))), (5, .int v_6), (4, .int (nI (h0 + 1 + i))), (7, .int v_6), (3, .int (nI h0)), (0, .ref (E.2.1 235)), (1, .int (nI p)), (2, .int (nI w))]) hx hb dX2_hourToCross_68 hl (k := 3) rfl (nI_add (h0 + 1 + i) 1) (by decide) rfl (fun ls hl => ?_)
          refine lv_goto (tgt := 31) hx hb dX2_hourToCross_71 (by decide) ?_
          exact ih31  (i + 1) (nI (h0 + 1 + i)) v_6 (by omega) (by omega) (by subst ev_6; rw [uCross, show nI h0 + nI (i + 1) = nI (h0 + 1 + i) by rw [nI_add]; congr 1; omega, ← hbs, if_neg (by rw [← hbp]; exact c_7)]) (by subst ev_6; rfl) _ _ _ h (lv_sub hl [0, 1, 2, 4, 5, 6, 7] rfl)
  exact lp31 _ 0 (nI h0) (xPassIn M p w (nI h0)) (Nat.lt_succ_self _) (by omega) rfl rfl _ _ _ h (lv_sub hl [0, 1, 2, 3, 4, 5, 6] rfl)
set_option maxHeartbeats 1000000 in
set_option maxRecDepth 100000 in
theorem k_X2_isHeardWrong (l : Launch) (E : uE) (hI : uI E) (M : uM) (e0 : Nat) (b : Nat) (hbk : M.1 11 0 = nI b) (hb12 : b ≤ 12) (he0 : e0 < b) (hwho : ∀ e, e < b → tn (M.1 12 e) < 6 ∧ M.1 12 e = nI (tn (M.1 12 e))) : Met l yX2_isHeardWrong wsX2_isHeardWrong ({ frames := 0, cells := 0, slots := 0, locals := 0 }) (va_Pc [.ref (E.2.1 235), .int (nI e0)] (uB E M)) (va_Qi (fun r u => M = u ∧ r = if xHWf M e0 = true then 1 else 0) (uP E) (uA E)) 0 0 (uA E) := by
  have hin0 : ∀ w ∈ wsX00, w ∈ wsX2_isHeardWrong := by decide +kernel
  have hin1 : ∀ w ∈ wsX10, w ∈ wsX2_isHeardWrong := by decide +kernel
  have hin2 : ∀ w ∈ wsX20, w ∈ wsX2_isHeardWrong := by decide +kernel
  have hin3 : ∀ w ∈ wsX30, w ∈ wsX2_isHeardWrong := by decide +kernel
  refine u_start (cc := cX2_isHeardWrong) (maxL := 4) (ret := (some .boolean)) hI (by decide) rfl (Nat.le_of_ble_eq_true rfl) ?_
  intro p_ e_ s_ m_ bl_ me_ c_ C hr hlocks h ls hl
  have hx := C.1.1
  have hb := C.1.2.1
  have hown : s_.vm.findClass RX2 = some m_.cls := C.1.2.2.2.1
  have hts := C.1.2.2.2.2
  have hl : lv_has ls 4 [(0, .ref (E.2.1 235)), (1, .int (nI e0))] := hl
  refine lv_aload_n hx hb dX2_isHeardWrong_0 rfl (lv_at hl 0 rfl) ?_
  refine ur_get C h 235 (by decide) (uc_235 E _) (Cn := RX2) (T := TX2) (N := 5) rfl hin2 0 (by decide) (by decide +kernel) rfl dX2_isHeardWrong_1 ?_
  refine ur_get C h 1 (by decide) (uc_1 E _) (Cn := RX1) (T := TX1) (N := 11) rfl hin1 8 (by decide) (by decide +kernel) rfl dX2_isHeardWrong_4 ?_
  refine ur_get C h 7 (by decide) (uc_7 E _) (Cn := RX3) (T := TX3) (N := 6) rfl hin3 3 (by decide) (by decide +kernel) rfl dX2_isHeardWrong_7 ?_
  refine lv_astore_n (lv' := [(2, .ref (E.2.1 11)), (0, .ref (E.2.1 235)), (1, .int (nI e0))]) hx hb dX2_isHeardWrong_10 rfl hl (by decide) rfl (fun ls hl => ?_)
  refine lv_aload_n hx hb dX2_isHeardWrong_11 rfl (lv_at hl 1 rfl) ?_
  refine ur_get C h 235 (by decide) (uc_235 E _) (Cn := RX2) (T := TX2) (N := 5) rfl hin2 0 (by decide) (by decide +kernel) rfl dX2_isHeardWrong_12 ?_
  refine ur_get C h 1 (by decide) (uc_1 E _) (Cn := RX1) (T := TX1) (N := 11) rfl hin1 2 (by decide) (by decide +kernel) rfl dX2_isHeardWrong_15 ?_
  refine lv_aload_n hx hb dX2_isHeardWrong_18 rfl (lv_at hl 0 rfl) ?_
  refine ur_get C h 11 (by decide) (uc_11 E _) (Cn := RX0) (T := TX0) (N := 4) rfl hin0 1 (by decide) (by decide +kernel) rfl dX2_isHeardWrong_19 ?_
  refine lv_iload_n hx hb dX2_isHeardWrong_22 rfl (lv_at hl 2 rfl) ?_
  refine ur_iald C h 12 (by decide) (uc_12 E _) (e0) (by omega) (by decide) dX2_isHeardWrong_23 ?_
  obtain ⟨hw1, hw2⟩ := hwho e0 he0
  refine ur_eq (y := nI (tn (M.1 12 e0))) hw2 ?_
  refine ur_iald C h 3 (by decide) (uc_3 E _) (tn (M.1 12 e0)) (by omega) (by decide) dX2_isHeardWrong_24 ?_
  refine lv_if_ne (tgt := 32) hx hb dX2_isHeardWrong_25 (by decide) (fun c_1 => ?_) (fun c_1 => ?_)
  · skip
    refine lv_iconst (v := 2) hx hb dX2_isHeardWrong_32 (by decide) ?_
    refine lv_istore_n (lv' := [(3, .int 2), (2, .ref (E.2.1 11)), (0, .ref (E.2.1 235)), (1, .int (nI e0))]) hx hb dX2_isHeardWrong_33 rfl hl (by decide) rfl (fun ls hl => ?_)
    refine lv_aload_n hx hb dX2_isHeardWrong_34 rfl (lv_at hl 1 rfl) ?_
    refine ur_get C h 11 (by decide) (uc_11 E _) (Cn := RX0) (T := TX0) (N := 4) rfl hin0 3 (by decide) (by decide +kernel) rfl dX2_isHeardWrong_35 ?_
    refine lv_iload_n hx hb dX2_isHeardWrong_38 rfl (lv_at hl 3 rfl) ?_
    refine ur_iald C h 14 (by decide) (uc_14 E _) (e0) (by omega) (by decide) dX2_isHeardWrong_39 ?_
    refine lv_iload_n hx hb dX2_isHeardWrong_40 rfl (lv_at hl 0 rfl) ?_
    refine lv_icmp_eq (tgt := 48) hx hb dX2_isHeardWrong_41 (by decide) (fun c_2 => ?_) (fun c_2 => ?_)
    · skip
      refine lv_iconst (v := 0) hx hb dX2_isHeardWrong_48 (by decide) ?_
      exact ur_zret C h hr (by rfl) hlocks (⟨rfl, (if_neg (by unfold xHWf; rw [if_neg c_1, decide_eq_true c_2]; decide)).symm⟩) dX2_isHeardWrong_49
    · skip
      refine lv_iconst (v := 1) hx hb dX2_isHeardWrong_44 (by decide) ?_
      refine lv_goto (tgt := 49) hx hb dX2_isHeardWrong_45 (by decide) ?_
      exact ur_zret C h hr (by rfl) hlocks (⟨rfl, (if_pos (by unfold xHWf; rw [if_neg c_1, decide_eq_false c_2]; decide)).symm⟩) dX2_isHeardWrong_49
  · skip
    refine lv_iconst (v := 1) hx hb dX2_isHeardWrong_28 (by decide) ?_
    refine lv_goto (tgt := 33) hx hb dX2_isHeardWrong_29 (by decide) ?_
    refine lv_istore_n (lv' := [(3, .int 1), (2, .ref (E.2.1 11)), (0, .ref (E.2.1 235)), (1, .int (nI e0))]) hx hb dX2_isHeardWrong_33 rfl hl (by decide) rfl (fun ls hl => ?_)
    refine lv_aload_n hx hb dX2_isHeardWrong_34 rfl (lv_at hl 1 rfl) ?_
    refine ur_get C h 11 (by decide) (uc_11 E _) (Cn := RX0) (T := TX0) (N := 4) rfl hin0 3 (by decide) (by decide +kernel) rfl dX2_isHeardWrong_35 ?_
    refine lv_iload_n hx hb dX2_isHeardWrong_38 rfl (lv_at hl 3 rfl) ?_
    refine ur_iald C h 14 (by decide) (uc_14 E _) (e0) (by omega) (by decide) dX2_isHeardWrong_39 ?_
    refine lv_iload_n hx hb dX2_isHeardWrong_40 rfl (lv_at hl 0 rfl) ?_
    refine lv_icmp_eq (tgt := 48) hx hb dX2_isHeardWrong_41 (by decide) (fun c_3 => ?_) (fun c_3 => ?_)
    · skip
      refine lv_iconst (v := 0) hx hb dX2_isHeardWrong_48 (by decide) ?_
      exact ur_zret C h hr (by rfl) hlocks (⟨rfl, (if_neg (by unfold xHWf; rw [if_pos c_1, decide_eq_true c_3]; decide)).symm⟩) dX2_isHeardWrong_49
    · skip
      refine lv_iconst (v := 1) hx hb dX2_isHeardWrong_44 (by decide) ?_
      refine lv_goto (tgt := 49) hx hb dX2_isHeardWrong_45 (by decide) ?_
      exact ur_zret C h hr (by rfl) hlocks (⟨rfl, (if_pos (by unfold xHWf; rw [if_pos c_1, decide_eq_false c_3]; decide)).symm⟩) dX2_isHeardWrong_49
set_option maxHeartbeats 1000000 in
set_option maxRecDepth 100000 in
theorem k_X2_howManyHeardWrong (l : Launch) (E : uE) (hI : uI E) (M : uM) (b : Nat) (hbk : M.1 11 0 = nI b) (hb12 : b ≤ 12) (hwho : ∀ e, e < b → tn (M.1 12 e) < 6 ∧ M.1 12 e = nI (tn (M.1 12 e))) : Met l yX2_howManyHeardWrong wsX2_howManyHeardWrong ({ frames := 1, cells := 0, slots := 0, locals := 23 }) (va_Pc [.ref (E.2.1 235)] (uB E M)) (va_Qi (fun r u => M = u ∧ r = xCnt (xHWf M) b) (uP E) (uA E)) 0 0 (uA E) := by
  have hin0 : ∀ w ∈ wsX00, w ∈ wsX2_howManyHeardWrong := by decide +kernel
  have hin1 : ∀ w ∈ wsX10, w ∈ wsX2_howManyHeardWrong := by decide +kernel
  have hin2 : ∀ w ∈ wsX20, w ∈ wsX2_howManyHeardWrong := by decide +kernel
  have hin3 : ∀ w ∈ wsX30, w ∈ wsX2_howManyHeardWrong := by decide +kernel
  refine u_start (cc := cX2_howManyHeardWrong) (maxL := 3) (ret := (some .int)) hI (by decide) rfl (Nat.le_of_ble_eq_true rfl) ?_
  intro p_ e_ s_ m_ bl_ me_ c_ C hr hlocks h ls hl
  have hx := C.1.1
  have hb := C.1.2.1
  have hown : s_.vm.findClass RX2 = some m_.cls := C.1.2.2.2.1
  have hts := C.1.2.2.2.2
  have hl : lv_has ls 3 [(0, .ref (E.2.1 235))] := hl
  refine lv_iconst (v := 0) hx hb dX2_howManyHeardWrong_0 (by decide) ?_
  refine lv_istore_n (lv' := [(1, .int 0), (0, .ref (E.2.1 235))]) hx hb dX2_howManyHeardWrong_1 rfl hl (by decide) rfl (fun ls hl => ?_)
  refine lv_iconst (v := 0) hx hb dX2_howManyHeardWrong_2 (by decide) ?_
  refine lv_istore_n (lv' := [(2, .int 0), (1, .int 0), (0, .ref (E.2.1 235))]) hx hb dX2_howManyHeardWrong_3 rfl hl (by decide) rfl (fun ls hl => ?_)
  have lp4 : ∀ (n4 : Nat) (i : Nat) (v : Int32), b - i < n4 → i ≤ b → v = xCnt (xHWf M) i → ∀ (H : Heap) (locs : List Loc) (ls : Array Slot), uH E M s_ H locs → lv_has ls 3 [(2, .int (nI i)), (1, .int v), (0, .ref (E.2.1 235))] → W p_ l e_ ({ frames := 1, cells := 0, slots := 0, locals := 23 }) s_ m_ (List.toArray [.ref (E.2.1 235)]) bl_ me_ c_ H locs 0 0 (MQ bl_ (va_Qi (fun r u => M = u ∧ r = xCnt (xHWf M) b) (uP E) (uA E)) (List.toArray [.ref (E.2.1 235)]) s_ 0 0 (uA E)) (F0 m_ 4 ls []) := by
    intro n4
    induction n4 with
    | zero => intro i v hms; exact absurd hms (Nat.not_lt_zero _)
    | succ n4 ih4 =>
      intro i v hms4 hi hv H locs ls h hl
      refine lv_iload_n hx hb dX2_howManyHeardWrong_4 rfl (lv_at hl 0 rfl) ?_
      refine lv_aload_n hx hb dX2_howManyHeardWrong_5 rfl (lv_at hl 2 rfl) ?_
      refine ur_get C h 235 (by decide) (uc_235 E _) (Cn := RX2) (T := TX2) (N := 5) rfl hin2 0 (by decide) (by decide +kernel) rfl dX2_howManyHeardWrong_6 ?_
      refine ur_get C h 1 (by decide) (uc_1 E _) (Cn := RX1) (T := TX1) (N := 11) rfl hin1 8 (by decide) (by decide +kernel) rfl dX2_howManyHeardWrong_9 ?_
      refine ur_get C h 7 (by decide) (uc_7 E _) (Cn := RX3) (T := TX3) (N := 6) rfl hin3 3 (by decide) (by decide +kernel) rfl dX2_howManyHeardWrong_12 ?_
      refine ur_get C h 11 (by decide) (uc_11 E _) (Cn := RX0) (T := TX0) (N := 4) rfl hin0 0 (by decide) (by decide +kernel) rfl dX2_howManyHeardWrong_15 ?_
      refine ur_eq (y := nI b) (hbk) ?_
      refine lv_icmp_ge (tgt := 38) hx hb dX2_howManyHeardWrong_18 (by decide) (fun c_1 => ?_) (fun c_1 => ?_)
      · skip
        have c_1 : b ≤ i := (nI_leI (a := b) (b := i) (by omega) (by omega)).mp c_1
        refine lv_iload_n hx hb dX2_howManyHeardWrong_38 rfl (lv_at hl 1 rfl) ?_
        exact ur_iret C h hr hlocks (⟨rfl, by rw [hv, show i = b by omega]⟩) dX2_howManyHeardWrong_39
      · skip
        have c_1 : ¬ b ≤ i := fun z => c_1 ((nI_leI (a := b) (b := i) (by omega) (by omega)).mpr z)
        refine lv_aload_n hx hb dX2_howManyHeardWrong_21 rfl (lv_at hl 2 rfl) ?_
        refine lv_iload_n hx hb dX2_howManyHeardWrong_22 rfl (lv_at hl 0 rfl) ?_
        refine ur_callVi C h (k := 235) (As := [.int (nI i)]) (rest := []) (k_X2_isHeardWrong l E hI M i b hbk hb12 (by omega) hwho) (cwV 1 hts gX2_howManyHeardWrong_X2_isHeardWrong rfl rfl rfl (by decide +kernel) ⟨Nat.le_of_ble_eq_true rfl, Nat.le_of_ble_eq_true rfl⟩) (by decide) (uc_235 E _) (T := TX2) (N := 5) rfl rfl hl.1 rfl (Nat.le_of_ble_eq_true rfl) dX2_howManyHeardWrong_23 (fun r_2 M_3 H locs hw_3 h => ?_)
        obtain ⟨hu, er_2⟩ := hw_3
        subst hu
        refine lv_if_eq (tgt := 32) hx hb dX2_howManyHeardWrong_26 (by decide) (fun c_4 => ?_) (fun c_4 => ?_)
        · skip
          have c_4 : ¬ (xHWf M i = true) := uz_f er_2 c_4
          refine lv_iinc (v := nI (i + 1)) (lv' := [(2, .int (nI (i + 1))), (1, .int v), (0, .ref (E.2.1 235))]) hx hb dX2_howManyHeardWrong_32 hl (k := 0) rfl (nI_add i 1) (by decide) rfl (fun ls hl => ?_)
          refine lv_goto (tgt := 4) hx hb dX2_howManyHeardWrong_35 (by decide) ?_
          exact ih4  (i + 1) v (by omega) (by omega) (by rw [xCnt, if_neg c_4, ← hv]) _ _ _ h (lv_sub hl [0, 1, 2] rfl)
        · skip
          have c_4 : xHWf M i = true := uz_t er_2 c_4
          refine lv_iinc (v := v + 1) (lv' := [(1, .int (v + 1)), (2, .int (nI i)), (0, .ref (E.2.1 235))]) hx hb dX2_howManyHeardWrong_29 hl (k := 1) rfl rfl (by decide) rfl (fun ls hl => ?_)
          refine lv_iinc (v := nI (i + 1)) (lv' := [(2, .int (nI (i + 1))), (1, .int (v + 1)), (0, .ref (E.2.1 235))]) hx hb dX2_howManyHeardWrong_32 hl (k := 1) rfl (nI_add i 1) (by decide) rfl (fun ls hl => ?_)
          refine lv_goto (tgt := 4) hx hb dX2_howManyHeardWrong_35 (by decide) ?_
          exact ih4  (i + 1) (v + 1) (by omega) (by omega) (by rw [xCnt, if_pos c_4, ← hv]) _ _ _ h (lv_sub hl [0, 1, 2] rfl)
  exact lp4 _ 0 0 (Nat.lt_succ_self _) (by omega) rfl _ _ _ h (lv_sub hl [0, 1, 2] rfl)
set_option maxHeartbeats 1000000 in
set_option maxRecDepth 100000 in
theorem k_X2_unluckiestHeardWrong (l : Launch) (E : uE) (hI : uI E) (M : uM) (b : Nat) (hbk : M.1 11 0 = nI b) (hb12 : b ≤ 12) (hwho : ∀ e, e < b → tn (M.1 12 e) < 6 ∧ M.1 12 e = nI (tn (M.1 12 e))) : Met l yX2_unluckiestHeardWrong wsX2_unluckiestHeardWrong ({ frames := 1, cells := 0, slots := 0, locals := 23 }) (va_Pc [.ref (E.2.1 235)] (uB E M)) (va_Qi (fun r u => M = u ∧ r = (xUn (xHWf M) (M.1 12) (xHWl M) b).1) (uP E) (uA E)) 0 0 (uA E) := by
  have hin0 : ∀ w ∈ wsX00, w ∈ wsX2_unluckiestHeardWrong := by decide +kernel
  have hin1 : ∀ w ∈ wsX10, w ∈ wsX2_unluckiestHeardWrong := by decide +kernel
  have hin2 : ∀ w ∈ wsX20, w ∈ wsX2_unluckiestHeardWrong := by decide +kernel
  have hin3 : ∀ w ∈ wsX30, w ∈ wsX2_unluckiestHeardWrong := by decide +kernel
  refine u_start (cc := cX2_unluckiestHeardWrong) (maxL := 6) (ret := (some .int)) hI (by decide) rfl (Nat.le_of_ble_eq_true rfl) ?_
  intro p_ e_ s_ m_ bl_ me_ c_ C hr hlocks h ls hl
  have hx := C.1.1
  have hb := C.1.2.1
  have hown : s_.vm.findClass RX2 = some m_.cls := C.1.2.2.2.1
  have hts := C.1.2.2.2.2
  have hl : lv_has ls 6 [(0, .ref (E.2.1 235))] := hl
  refine lv_aload_n hx hb dX2_unluckiestHeardWrong_0 rfl (lv_at hl 0 rfl) ?_
  refine ur_get C h 235 (by decide) (uc_235 E _) (Cn := RX2) (T := TX2) (N := 5) rfl hin2 0 (by decide) (by decide +kernel) rfl dX2_unluckiestHeardWrong_1 ?_
  refine ur_get C h 1 (by decide) (uc_1 E _) (Cn := RX1) (T := TX1) (N := 11) rfl hin1 8 (by decide) (by decide +kernel) rfl dX2_unluckiestHeardWrong_4 ?_
  refine ur_get C h 7 (by decide) (uc_7 E _) (Cn := RX3) (T := TX3) (N := 6) rfl hin3 3 (by decide) (by decide +kernel) rfl dX2_unluckiestHeardWrong_7 ?_
  refine lv_astore_n (lv' := [(1, .ref (E.2.1 11)), (0, .ref (E.2.1 235))]) hx hb dX2_unluckiestHeardWrong_10 rfl hl (by decide) rfl (fun ls hl => ?_)
  refine lv_bipush (v := (-4)) hx hb dX2_unluckiestHeardWrong_11 (by decide) ?_
  refine lv_istore_n (lv' := [(2, .int (-4)), (1, .ref (E.2.1 11)), (0, .ref (E.2.1 235))]) hx hb dX2_unluckiestHeardWrong_13 rfl hl (by decide) rfl (fun ls hl => ?_)
  refine lv_ldc (v := 1000001) hx hb hown (hts (.constant RX2 145 1000001) (by decide +kernel)) dX2_unluckiestHeardWrong_14 ?_
  refine lv_istore_n (lv' := [(3, .int 1000001), (2, .int (-4)), (1, .ref (E.2.1 11)), (0, .ref (E.2.1 235))]) hx hb dX2_unluckiestHeardWrong_16 rfl hl (by decide) rfl (fun ls hl => ?_)
  refine lv_iconst (v := 0) hx hb dX2_unluckiestHeardWrong_17 (by decide) ?_
  refine lv_istore (lv' := [(4, .int 0), (3, .int 1000001), (2, .int (-4)), (1, .ref (E.2.1 11)), (0, .ref (E.2.1 235))]) hx hb dX2_unluckiestHeardWrong_18 hl (by decide) rfl (fun ls hl => ?_)
  have lp20 : ∀ (n20 : Nat) (i : Nat) (v2 v3 : Int32), b - i < n20 → i ≤ b → (v2, v3) = xUn (xHWf M) (M.1 12) (xHWl M) i → ∀ (H : Heap) (locs : List Loc) (ls : Array Slot), uH E M s_ H locs → lv_has ls 6 [(4, .int (nI i)), (3, .int v3), (2, .int v2), (1, .ref (E.2.1 11)), (0, .ref (E.2.1 235))] → W p_ l e_ ({ frames := 1, cells := 0, slots := 0, locals := 23 }) s_ m_ (List.toArray [.ref (E.2.1 235)]) bl_ me_ c_ H locs 0 0 (MQ bl_ (va_Qi (fun r u => M = u ∧ r = (xUn (xHWf M) (M.1 12) (xHWl M) b).1) (uP E) (uA E)) (List.toArray [.ref (E.2.1 235)]) s_ 0 0 (uA E)) (F0 m_ 20 ls []) := by
    intro n20
    induction n20 with
    | zero => intro i v2 v3 hms; exact absurd hms (Nat.not_lt_zero _)
    | succ n20 ih20 =>
      intro i v2 v3 hms20 hi hbl H locs ls h hl
      refine lv_iload hx hb dX2_unluckiestHeardWrong_20 (lv_at hl 0 rfl) ?_
      refine lv_aload_n hx hb dX2_unluckiestHeardWrong_22 rfl (lv_at hl 3 rfl) ?_
      refine ur_get C h 11 (by decide) (uc_11 E _) (Cn := RX0) (T := TX0) (N := 4) rfl hin0 0 (by decide) (by decide +kernel) rfl dX2_unluckiestHeardWrong_23 ?_
      refine ur_eq (y := nI b) (hbk) ?_
      refine lv_icmp_ge (tgt := 94) hx hb dX2_unluckiestHeardWrong_26 (by decide) (fun c_1 => ?_) (fun c_1 => ?_)
      · skip
        have c_1 : b ≤ i := (nI_leI (a := b) (b := i) (by omega) (by omega)).mp c_1
        refine lv_iload_n hx hb dX2_unluckiestHeardWrong_94 rfl (lv_at hl 2 rfl) ?_
        exact ur_iret C h hr hlocks (⟨rfl, by rw [← show i = b by omega, ← hbl]⟩) dX2_unluckiestHeardWrong_95
      · skip
        have c_1 : ¬ b ≤ i := fun z => c_1 ((nI_leI (a := b) (b := i) (by omega) (by omega)).mpr z)
        refine lv_aload_n hx hb dX2_unluckiestHeardWrong_29 rfl (lv_at hl 3 rfl) ?_
        refine ur_get C h 11 (by decide) (uc_11 E _) (Cn := RX0) (T := TX0) (N := 4) rfl hin0 3 (by decide) (by decide +kernel) rfl dX2_unluckiestHeardWrong_30 ?_
        refine lv_iload hx hb dX2_unluckiestHeardWrong_33 (lv_at hl 0 rfl) ?_
        refine ur_iald C h 14 (by decide) (uc_14 E _) (i) (by omega) (by decide) dX2_unluckiestHeardWrong_35 ?_
        refine lv_iconst (v := 1) hx hb dX2_unluckiestHeardWrong_36 (by decide) ?_
        refine lv_icmp_ne (tgt := 50) hx hb dX2_unluckiestHeardWrong_37 (by decide) (fun c_2 => ?_) (fun c_2 => ?_)
        · skip
          refine lv_ldc (v := 1000000) hx hb hown (hts (.constant RX2 34 1000000) (by decide +kernel)) dX2_unluckiestHeardWrong_50 ?_
          refine lv_aload_n hx hb dX2_unluckiestHeardWrong_52 rfl (lv_at hl 3 rfl) ?_
          refine ur_get C h 11 (by decide) (uc_11 E _) (Cn := RX0) (T := TX0) (N := 4) rfl hin0 2 (by decide) (by decide +kernel) rfl dX2_unluckiestHeardWrong_53 ?_
          refine lv_iload hx hb dX2_unluckiestHeardWrong_56 (lv_at hl 0 rfl) ?_
          refine ur_iald C h 13 (by decide) (uc_13 E _) (i) (by omega) (by decide) dX2_unluckiestHeardWrong_58 ?_
          refine lv_isub hx hb dX2_unluckiestHeardWrong_59 ?_
          refine lv_istore (lv' := [(5, .int (1000000 - (M.1 13 i))), (4, .int (nI i)), (3, .int v3), (2, .int v2), (1, .ref (E.2.1 11)), (0, .ref (E.2.1 235))]) hx hb dX2_unluckiestHeardWrong_60 hl (by decide) rfl (fun ls hl => ?_)
          refine lv_aload_n hx hb dX2_unluckiestHeardWrong_62 rfl (lv_at hl 5 rfl) ?_
          refine lv_iload hx hb dX2_unluckiestHeardWrong_63 (lv_at hl 1 rfl) ?_
          refine ur_callVi C h (k := 235) (As := [.int (nI i)]) (rest := []) (k_X2_isHeardWrong l E hI M i b hbk hb12 (by omega) hwho) (cwV 1 hts gX2_unluckiestHeardWrong_X2_isHeardWrong rfl rfl rfl (by decide +kernel) ⟨Nat.le_of_ble_eq_true rfl, Nat.le_of_ble_eq_true rfl⟩) (by decide) (uc_235 E _) (T := TX2) (N := 5) rfl rfl hl.1 rfl (Nat.le_of_ble_eq_true rfl) dX2_unluckiestHeardWrong_65 (fun r_3 M_4 H locs hw_4 h => ?_)
          obtain ⟨hu, er_3⟩ := hw_4
          subst hu
          refine lv_if_eq (tgt := 88) hx hb dX2_unluckiestHeardWrong_68 (by decide) (fun c_5 => ?_) (fun c_5 => ?_)
          · skip
            have c_5 : ¬ (xHWf M i = true) := uz_f er_3 c_5
            refine lv_iinc (v := nI (i + 1)) (lv' := [(4, .int (nI (i + 1))), (5, .int (1000000 - (M.1 13 i))), (3, .int v3), (2, .int v2), (1, .ref (E.2.1 11)), (0, .ref (E.2.1 235))]) hx hb dX2_unluckiestHeardWrong_88 hl (k := 1) rfl (nI_add i 1) (by decide) rfl (fun ls hl => ?_)
            refine lv_goto (tgt := 20) hx hb dX2_unluckiestHeardWrong_91 (by decide) ?_
            exact ih20  (i + 1) v2 v3 (by omega) (by omega) (by rw [xUn]; rw [if_neg (fun z => c_5 z.1)]; exact hbl) _ _ _ h (lv_sub hl [0, 2, 3, 4, 5] rfl)
          · skip
            have c_5 : xHWf M i = true := uz_t er_3 c_5
            refine lv_iload hx hb dX2_unluckiestHeardWrong_71 (lv_at hl 0 rfl) ?_
            refine lv_iload_n hx hb dX2_unluckiestHeardWrong_73 rfl (lv_at hl 2 rfl) ?_
            refine lv_icmp_ge (tgt := 88) hx hb dX2_unluckiestHeardWrong_74 (by decide) (fun c_6 => ?_) (fun c_6 => ?_)
            · skip
              refine lv_iinc (v := nI (i + 1)) (lv' := [(4, .int (nI (i + 1))), (5, .int (1000000 - (M.1 13 i))), (3, .int v3), (2, .int v2), (1, .ref (E.2.1 11)), (0, .ref (E.2.1 235))]) hx hb dX2_unluckiestHeardWrong_88 hl (k := 1) rfl (nI_add i 1) (by decide) rfl (fun ls hl => ?_)
              refine lv_goto (tgt := 20) hx hb dX2_unluckiestHeardWrong_91 (by decide) ?_
              exact ih20  (i + 1) v2 v3 (by omega) (by omega) (by rw [xUn]; rw [if_neg (fun z => z.2 (by rw [← hbl, show xHWl M i = _ from if_neg c_2]; exact c_6))]; exact hbl) _ _ _ h (lv_sub hl [0, 2, 3, 4, 5] rfl)
            · skip
              refine lv_aload_n hx hb dX2_unluckiestHeardWrong_77 rfl (lv_at hl 4 rfl) ?_
              refine ur_get C h 11 (by decide) (uc_11 E _) (Cn := RX0) (T := TX0) (N := 4) rfl hin0 1 (by decide) (by decide +kernel) rfl dX2_unluckiestHeardWrong_78 ?_
              refine lv_iload hx hb dX2_unluckiestHeardWrong_81 (lv_at hl 1 rfl) ?_
              refine ur_iald C h 12 (by decide) (uc_12 E _) (i) (by omega) (by decide) dX2_unluckiestHeardWrong_83 ?_
              refine lv_istore_n (lv' := [(2, .int (M.1 12 i)), (5, .int (1000000 - (M.1 13 i))), (4, .int (nI i)), (3, .int v3), (1, .ref (E.2.1 11)), (0, .ref (E.2.1 235))]) hx hb dX2_unluckiestHeardWrong_84 rfl hl (by decide) rfl (fun ls hl => ?_)
              refine lv_iload hx hb dX2_unluckiestHeardWrong_85 (lv_at hl 1 rfl) ?_
              refine lv_istore_n (lv' := [(3, .int (1000000 - (M.1 13 i))), (2, .int (M.1 12 i)), (5, .int (1000000 - (M.1 13 i))), (4, .int (nI i)), (1, .ref (E.2.1 11)), (0, .ref (E.2.1 235))]) hx hb dX2_unluckiestHeardWrong_87 rfl hl (by decide) rfl (fun ls hl => ?_)
              refine lv_iinc (v := nI (i + 1)) (lv' := [(4, .int (nI (i + 1))), (3, .int (1000000 - (M.1 13 i))), (2, .int (M.1 12 i)), (5, .int (1000000 - (M.1 13 i))), (1, .ref (E.2.1 11)), (0, .ref (E.2.1 235))]) hx hb dX2_unluckiestHeardWrong_88 hl (k := 3) rfl (nI_add i 1) (by decide) rfl (fun ls hl => ?_)
              refine lv_goto (tgt := 20) hx hb dX2_unluckiestHeardWrong_91 (by decide) ?_
              exact ih20  (i + 1) (M.1 12 i) (1000000 - (M.1 13 i)) (by omega) (by omega) (by rw [xUn]; rw [if_pos ⟨c_5, by rw [← hbl, show xHWl M i = _ from if_neg c_2]; exact c_6⟩, show xHWl M i = _ from if_neg c_2]) _ _ _ h (lv_sub hl [0, 1, 2, 4, 5] rfl)
        · skip
          refine lv_aload_n hx hb dX2_unluckiestHeardWrong_40 rfl (lv_at hl 3 rfl) ?_
          refine ur_get C h 11 (by decide) (uc_11 E _) (Cn := RX0) (T := TX0) (N := 4) rfl hin0 2 (by decide) (by decide +kernel) rfl dX2_unluckiestHeardWrong_41 ?_
          refine lv_iload hx hb dX2_unluckiestHeardWrong_44 (lv_at hl 0 rfl) ?_
          refine ur_iald C h 13 (by decide) (uc_13 E _) (i) (by omega) (by decide) dX2_unluckiestHeardWrong_46 ?_
          refine lv_goto (tgt := 60) hx hb dX2_unluckiestHeardWrong_47 (by decide) ?_
          refine lv_istore (lv' := [(5, .int (M.1 13 i)), (4, .int (nI i)), (3, .int v3), (2, .int v2), (1, .ref (E.2.1 11)), (0, .ref (E.2.1 235))]) hx hb dX2_unluckiestHeardWrong_60 hl (by decide) rfl (fun ls hl => ?_)
          refine lv_aload_n hx hb dX2_unluckiestHeardWrong_62 rfl (lv_at hl 5 rfl) ?_
          refine lv_iload hx hb dX2_unluckiestHeardWrong_63 (lv_at hl 1 rfl) ?_
          refine ur_callVi C h (k := 235) (As := [.int (nI i)]) (rest := []) (k_X2_isHeardWrong l E hI M i b hbk hb12 (by omega) hwho) (cwV 1 hts gX2_unluckiestHeardWrong_X2_isHeardWrong rfl rfl rfl (by decide +kernel) ⟨Nat.le_of_ble_eq_true rfl, Nat.le_of_ble_eq_true rfl⟩) (by decide) (uc_235 E _) (T := TX2) (N := 5) rfl rfl hl.1 rfl (Nat.le_of_ble_eq_true rfl) dX2_unluckiestHeardWrong_65 (fun r_7 M_8 H locs hw_8 h => ?_)
          obtain ⟨hu, er_7⟩ := hw_8
          subst hu
          refine lv_if_eq (tgt := 88) hx hb dX2_unluckiestHeardWrong_68 (by decide) (fun c_9 => ?_) (fun c_9 => ?_)
          · skip
            have c_9 : ¬ (xHWf M i = true) := uz_f er_7 c_9
            refine lv_iinc (v := nI (i + 1)) (lv' := [(4, .int (nI (i + 1))), (5, .int (M.1 13 i)), (3, .int v3), (2, .int v2), (1, .ref (E.2.1 11)), (0, .ref (E.2.1 235))]) hx hb dX2_unluckiestHeardWrong_88 hl (k := 1) rfl (nI_add i 1) (by decide) rfl (fun ls hl => ?_)
            refine lv_goto (tgt := 20) hx hb dX2_unluckiestHeardWrong_91 (by decide) ?_
            exact ih20  (i + 1) v2 v3 (by omega) (by omega) (by rw [xUn]; rw [if_neg (fun z => c_9 z.1)]; exact hbl) _ _ _ h (lv_sub hl [0, 2, 3, 4, 5] rfl)
          · skip
            have c_9 : xHWf M i = true := uz_t er_7 c_9
            refine lv_iload hx hb dX2_unluckiestHeardWrong_71 (lv_at hl 0 rfl) ?_
            refine lv_iload_n hx hb dX2_unluckiestHeardWrong_73 rfl (lv_at hl 2 rfl) ?_
            refine lv_icmp_ge (tgt := 88) hx hb dX2_unluckiestHeardWrong_74 (by decide) (fun c_10 => ?_) (fun c_10 => ?_)
            · skip
              refine lv_iinc (v := nI (i + 1)) (lv' := [(4, .int (nI (i + 1))), (5, .int (M.1 13 i)), (3, .int v3), (2, .int v2), (1, .ref (E.2.1 11)), (0, .ref (E.2.1 235))]) hx hb dX2_unluckiestHeardWrong_88 hl (k := 1) rfl (nI_add i 1) (by decide) rfl (fun ls hl => ?_)
              refine lv_goto (tgt := 20) hx hb dX2_unluckiestHeardWrong_91 (by decide) ?_
              exact ih20  (i + 1) v2 v3 (by omega) (by omega) (by rw [xUn]; rw [if_neg (fun z => z.2 (by rw [← hbl, show xHWl M i = _ from if_pos c_2]; exact c_10))]; exact hbl) _ _ _ h (lv_sub hl [0, 2, 3, 4, 5] rfl)
            · skip
              refine lv_aload_n hx hb dX2_unluckiestHeardWrong_77 rfl (lv_at hl 4 rfl) ?_
              refine ur_get C h 11 (by decide) (uc_11 E _) (Cn := RX0) (T := TX0) (N := 4) rfl hin0 1 (by decide) (by decide +kernel) rfl dX2_unluckiestHeardWrong_78 ?_
              refine lv_iload hx hb dX2_unluckiestHeardWrong_81 (lv_at hl 1 rfl) ?_
              refine ur_iald C h 12 (by decide) (uc_12 E _) (i) (by omega) (by decide) dX2_unluckiestHeardWrong_83 ?_
              refine lv_istore_n (lv' := [(2, .int (M.1 12 i)), (5, .int (M.1 13 i)), (4, .int (nI i)), (3, .int v3), (1, .ref (E.2.1 11)), (0, .ref (E.2.1 235))]) hx hb dX2_unluckiestHeardWrong_84 rfl hl (by decide) rfl (fun ls hl => ?_)
              refine lv_iload hx hb dX2_unluckiestHeardWrong_85 (lv_at hl 1 rfl) ?_
              refine lv_istore_n (lv' := [(3, .int (M.1 13 i)), (2, .int (M.1 12 i)), (5, .int (M.1 13 i)), (4, .int (nI i)), (1, .ref (E.2.1 11)), (0, .ref (E.2.1 235))]) hx hb dX2_unluckiestHeardWrong_87 rfl hl (by decide) rfl (fun ls hl => ?_)
              refine lv_iinc (v := nI (i + 1)) (lv' := [(4, .int (nI (i + 1))), (3, .int (M.1 13 i)), (2, .int (M.1 12 i)), (5, .int (M.1 13 i)), (1, .ref (E.2.1 11)), (0, .ref (E.2.1 235))]) hx hb dX2_unluckiestHeardWrong_88 hl (k := 3) rfl (nI_add i 1) (by decide) rfl (fun ls hl => ?_)
              refine lv_goto (tgt := 20) hx hb dX2_unluckiestHeardWrong_91 (by decide) ?_
              exact ih20  (i + 1) (M.1 12 i) (M.1 13 i) (by omega) (by omega) (by rw [xUn]; rw [if_pos ⟨c_9, by rw [← hbl, show xHWl M i = _ from if_pos c_2]; exact c_10⟩, show xHWl M i = _ from if_pos c_2]) _ _ _ h (lv_sub hl [0, 1, 2, 4, 5] rfl)
  exact lp20 _ 0 (-4) 1000001 (Nat.lt_succ_self _) (by omega) rfl _ _ _ h (lv_sub hl [0, 1, 2, 3, 4] rfl)
