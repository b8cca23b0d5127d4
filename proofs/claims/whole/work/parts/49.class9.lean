set_option maxHeartbeats 1000000 in
set_option maxRecDepth 100000 in
theorem k_J0_isLatin1_aae02 (l : Launch) (E : uE) (hI : uI E) (S : uS) (M : uM) (k : Nat) (hk : k < 6) : Met l yJ0_isLatin1_aae02 wsJ0_isLatin1_aae02 ({ frames := 0, cells := 0, slots := 0, locals := 0 }) (va_Pc [.ref (S.1 k)] (uBt E S M)) (va_Qi (fun r u => M = u ∧ r = 1) (uP E) (uA E)) 0 0 (uA E) := by
  refine u_startT (cc := cJ0_isLatin1_aae02) (maxL := 1) (ret := (some .boolean)) hI (by decide) rfl (Nat.le_of_ble_eq_true rfl) ?_
  intro p_ e_ s_ m_ bl_ me_ c_ C hT hr hlocks h ls hl
  have hx := C.1.1
  have hb := C.1.2.1
  have hown : s_.vm.findClass RJ0 = some m_.cls := C.1.2.2.2.1
  have hts := C.1.2.2.2.2
  have hl : lv_has ls 1 [(0, .ref (S.1 k))] := hl
  refine ut_compact C hT h (by decide +kernel) dJ0_isLatin1_aae02_0 ?_
  refine lv_if_eq (tgt := 17) hx hb dJ0_isLatin1_aae02_3 (by decide) (fun z => absurd z (by decide)) (fun c_1 => ?_)
  refine lv_aload_n hx hb dJ0_isLatin1_aae02_6 rfl (lv_at hl 0 rfl) ?_
  refine ut_coder C hT h hk (by decide +kernel) dJ0_isLatin1_aae02_7 ?_
  refine lv_if_ne (tgt := 17) hx hb dJ0_isLatin1_aae02_10 (by decide) (fun z => absurd z (by decide)) (fun c_2 => ?_)
  refine lv_iconst (v := 1) hx hb dJ0_isLatin1_aae02_13 (by decide) ?_
  refine lv_goto (tgt := 18) hx hb dJ0_isLatin1_aae02_14 (by decide) ?_
  exact ur_zret C h hr (by rfl) hlocks (⟨rfl, rfl⟩) dJ0_isLatin1_aae02_18
set_option maxHeartbeats 1000000 in
set_option maxRecDepth 100000 in
theorem k_J0_coder_7d493 (l : Launch) (E : uE) (hI : uI E) (S : uS) (M : uM) (k : Nat) (hk : k < 6) : Met l yJ0_coder_7d493 wsJ0_coder_7d493 ({ frames := 0, cells := 0, slots := 0, locals := 0 }) (va_Pc [.ref (S.1 k)] (uBt E S M)) (va_Qi (fun r u => M = u ∧ r = 0) (uP E) (uA E)) 0 0 (uA E) := by
  refine u_startT (cc := cJ0_coder_7d493) (maxL := 1) (ret := (some .byte)) hI (by decide) rfl (Nat.le_of_ble_eq_true rfl) ?_
  intro p_ e_ s_ m_ bl_ me_ c_ C hT hr hlocks h ls hl
  have hx := C.1.1
  have hb := C.1.2.1
  have hown : s_.vm.findClass RJ0 = some m_.cls := C.1.2.2.2.1
  have hts := C.1.2.2.2.2
  have hl : lv_has ls 1 [(0, .ref (S.1 k))] := hl
  refine ut_compact C hT h (by decide +kernel) dJ0_coder_7d493_0 ?_
  refine lv_if_eq (tgt := 13) hx hb dJ0_coder_7d493_3 (by decide) (fun z => absurd z (by decide)) (fun c_1 => ?_)
  refine lv_aload_n hx hb dJ0_coder_7d493_6 rfl (lv_at hl 0 rfl) ?_
  refine ut_coder C hT h hk (by decide +kernel) dJ0_coder_7d493_7 ?_
  refine lv_goto (tgt := 14) hx hb dJ0_coder_7d493_10 (by decide) ?_
  exact ur_zret C h hr (by rfl) hlocks (⟨rfl, rfl⟩) dJ0_coder_7d493_14
set_option maxHeartbeats 1000000 in
set_option maxRecDepth 100000 in
theorem k_J0_length_8abf5 (l : Launch) (E : uE) (hI : uI E) (S : uS) (M : uM) (k : Nat) (hk : k < 6) : Met l yJ0_length_8abf5 wsJ0_length_8abf5 ({ frames := 1, cells := 0, slots := 0, locals := 20 }) (va_Pc [.ref (S.1 k)] (uBt E S M)) (va_Qi (fun r u => M = u ∧ r = nI (tLen.getD k 0)) (uP E) (uA E)) 0 0 (uA E) := by
  refine u_startT (cc := cJ0_length_8abf5) (maxL := 1) (ret := (some .int)) hI (by decide) rfl (Nat.le_of_ble_eq_true rfl) ?_
  intro p_ e_ s_ m_ bl_ me_ c_ C hT hr hlocks h ls hl
  have hx := C.1.1
  have hb := C.1.2.1
  have hown : s_.vm.findClass RJ0 = some m_.cls := C.1.2.2.2.1
  have hts := C.1.2.2.2.2
  have hl : lv_has ls 1 [(0, .ref (S.1 k))] := hl
  refine lv_aload_n hx hb dJ0_length_8abf5_0 rfl (lv_at hl 0 rfl) ?_
  refine ut_value C hT h hk (by decide +kernel) dJ0_length_8abf5_1 ?_
  refine ut_len C hT h hk dJ0_length_8abf5_4 ?_
  refine lv_aload_n hx hb dJ0_length_8abf5_5 rfl (lv_at hl 0 rfl) ?_
  refine ut_callTi C hT h (k := k) hk (As := []) (rest := [.int (nI (tLen.getD k 0))]) (k_J0_coder_7d493 l E hI S M k hk) (cwV 0 hts gJ0_length_8abf5_J0_coder_7d493 rfl rfl rfl (by decide +kernel) ⟨Nat.le_of_ble_eq_true rfl, Nat.le_of_ble_eq_true rfl⟩) rfl hl.1 rfl (Nat.le_of_ble_eq_true rfl) dJ0_length_8abf5_6 (fun r_1 M_2 H locs hw_2 h => ?_)
  obtain ⟨hu, er_1⟩ := hw_2
  subst hu
  refine ur_eq (y := 0) er_1 ?_
  refine lv_ishr hx hb dJ0_length_8abf5_9 ?_
  exact ur_iret C h hr hlocks (⟨rfl, t_shr ⟨k, hk⟩⟩) dJ0_length_8abf5_10
set_option maxHeartbeats 1000000 in
set_option maxRecDepth 100000 in
theorem k_J1_canEncode_9a6ad (l : Launch) (E : uE) (hI : uI E) (M : uM) (x0 : Int32) : Met l yJ1_canEncode_9a6ad wsJ1_canEncode_9a6ad ({ frames := 0, cells := 0, slots := 0, locals := 0 }) (va_Pc [.int x0] (uB E M)) (va_Qi (fun r u => M = u ∧ r = if (¬ x0 < 0 ∧ ¬ 255 < x0) then 1 else 0) (uP E) (uA E)) 0 0 (uA E) := by
  refine u_start (cc := cJ1_canEncode_9a6ad) (maxL := 1) (ret := (some .boolean)) hI (by decide) rfl (Nat.le_of_ble_eq_true rfl) ?_
  intro p_ e_ s_ m_ bl_ me_ c_ C hr hlocks h ls hl
  have hx := C.1.1
  have hb := C.1.2.1
  have hown : s_.vm.findClass RJ1 = some m_.cls := C.1.2.2.2.1
  have hts := C.1.2.2.2.2
  have hl : lv_has ls 1 [(0, .int x0)] := hl
  refine lv_iload_n hx hb dJ1_canEncode_9a6ad_0 rfl (lv_at hl 0 rfl) ?_
  refine lv_if_lt (tgt := 15) hx hb dJ1_canEncode_9a6ad_1 (by decide) (fun c_1 => ?_) (fun c_1 => ?_)
  · skip
    refine lv_iconst (v := 0) hx hb dJ1_canEncode_9a6ad_15 (by decide) ?_
    exact ur_zret C h hr (by rfl) hlocks (⟨rfl, (if_neg (fun z => by first | exact z.1 c_1 | exact z.2 c_1)).symm⟩) dJ1_canEncode_9a6ad_16
  · skip
    refine lv_iload_n hx hb dJ1_canEncode_9a6ad_4 rfl (lv_at hl 0 rfl) ?_
    refine lv_sipush (v := 255) hx hb dJ1_canEncode_9a6ad_5 (by decide) ?_
    refine lv_icmp_gt (tgt := 15) hx hb dJ1_canEncode_9a6ad_8 (by decide) (fun c_2 => ?_) (fun c_2 => ?_)
    · skip
      refine lv_iconst (v := 0) hx hb dJ1_canEncode_9a6ad_15 (by decide) ?_
      exact ur_zret C h hr (by rfl) hlocks (⟨rfl, (if_neg (fun z => by first | exact z.1 c_2 | exact z.2 c_2)).symm⟩) dJ1_canEncode_9a6ad_16
    · skip
      refine lv_iconst (v := 1) hx hb dJ1_canEncode_9a6ad_11 (by decide) ?_
      refine lv_goto (tgt := 16) hx hb dJ1_canEncode_9a6ad_12 (by decide) ?_
      exact ur_zret C h hr (by rfl) hlocks (⟨rfl, (if_pos ⟨c_1, c_2⟩).symm⟩) dJ1_canEncode_9a6ad_16
set_option maxHeartbeats 1000000 in
set_option maxRecDepth 100000 in
theorem k_J1_indexOfChar_4cfef (l : Launch) (E : uE) (hI : uI E) (S : uS) (M : uM) (k : Nat) (hk : k < 6) (x1 : Int32) : Met l yJ1_indexOfChar_4cfef wsJ1_indexOfChar_4cfef ({ frames := 0, cells := 0, slots := 0, locals := 0 }) (va_Pc [.ref (S.2 k), .int x1, .int (nI 0), .int (nI (tLen.getD k 0))] (uBt E S M)) (va_Qi (fun r u => M = u ∧ r = tIxF k x1.toInt8.toInt32 0 (tLen.getD k 0)) (uP E) (uA E)) 0 0 (uA E) := by
  refine u_startT (cc := cJ1_indexOfChar_4cfef) (maxL := 6) (ret := (some .int)) hI (by decide) rfl (Nat.le_of_ble_eq_true rfl) ?_
  intro p_ e_ s_ m_ bl_ me_ c_ C hT hr hlocks h ls hl
  have hx := C.1.1
  have hb := C.1.2.1
  have hown : s_.vm.findClass RJ1 = some m_.cls := C.1.2.2.2.1
  have hts := C.1.2.2.2.2
  have hl : lv_has ls 6 [(0, .ref (S.2 k)), (1, .int x1), (2, .int (nI 0)), (3, .int (nI (tLen.getD k 0)))] := hl
  have htl := tLen_le k hk
  refine lv_iload_n hx hb dJ1_indexOfChar_4cfef_0 rfl (lv_at hl 1 rfl) ?_
  refine lv_i2b (v := x1.toInt8.toInt32) hx hb dJ1_indexOfChar_4cfef_1 rfl ?_
  refine lv_istore (lv' := [(4, .int x1.toInt8.toInt32), (0, .ref (S.2 k)), (1, .int x1), (2, .int (nI 0)), (3, .int (nI (tLen.getD k 0)))]) hx hb dJ1_indexOfChar_4cfef_2 hl (by decide) rfl (fun ls hl => ?_)
  refine lv_iload_n hx hb dJ1_indexOfChar_4cfef_4 rfl (lv_at hl 3 rfl) ?_
  refine lv_istore (lv' := [(5, .int (nI 0)), (4, .int x1.toInt8.toInt32), (0, .ref (S.2 k)), (1, .int x1), (2, .int (nI 0)), (3, .int (nI (tLen.getD k 0)))]) hx hb dJ1_indexOfChar_4cfef_5 hl (by decide) rfl (fun ls hl => ?_)
  have lp7 : ∀ (n7 : Nat) (i : Nat), tLen.getD k 0 - i < n7 → (i ≤ tLen.getD k 0) → (tIxF k x1.toInt8.toInt32 i (tLen.getD k 0 - i) = tIxF k x1.toInt8.toInt32 0 (tLen.getD k 0)) → ∀ (H : Heap) (locs : List Loc) (ls : Array Slot), uH E M s_ H locs → lv_has ls 6 [(5, .int (nI i)), (4, .int x1.toInt8.toInt32), (0, .ref (S.2 k)), (1, .int x1), (2, .int (nI 0)), (3, .int (nI (tLen.getD k 0)))] → W p_ l e_ ({ frames := 0, cells := 0, slots := 0, locals := 0 }) s_ m_ (List.toArray [.ref (S.2 k), .int x1, .int (nI 0), .int (nI (tLen.getD k 0))]) bl_ me_ c_ H locs 0 0 (MQ bl_ (va_Qi (fun r u => M = u ∧ r = tIxF k x1.toInt8.toInt32 0 (tLen.getD k 0)) (uP E) (uA E)) (List.toArray [.ref (S.2 k), .int x1, .int (nI 0), .int (nI (tLen.getD k 0))]) s_ 0 0 (uA E)) (F0 m_ 7 ls []) := by
    intro n7
    induction n7 with
    | zero => intro i hms; exact absurd hms (Nat.not_lt_zero _)
    | succ n7 ih7 =>
      intro i hms7 hi hix H locs ls h hl
      refine lv_iload hx hb dJ1_indexOfChar_4cfef_7 (lv_at hl 0 rfl) ?_
      refine lv_iload_n hx hb dJ1_indexOfChar_4cfef_9 rfl (lv_at hl 5 rfl) ?_
      refine lv_icmp_ge (tgt := 31) hx hb dJ1_indexOfChar_4cfef_10 (by decide) (fun c_1 => ?_) (fun c_1 => ?_)
      · skip
        have c_1 : (tLen.getD k 0) ≤ i := (nI_leI (a := (tLen.getD k 0)) (b := i) (by omega) (by omega)).mp c_1
        refine lv_iconst (v := (-1)) hx hb dJ1_indexOfChar_4cfef_31 (by decide) ?_
        exact ur_iret C h hr hlocks (⟨rfl, by rw [← hix, show tLen.getD k 0 - i = 0 by omega]; rfl⟩) dJ1_indexOfChar_4cfef_32
      · skip
        have c_1 : ¬ (tLen.getD k 0) ≤ i := fun z => c_1 ((nI_leI (a := (tLen.getD k 0)) (b := i) (by omega) (by omega)).mpr z)
        refine lv_aload_n hx hb dJ1_indexOfChar_4cfef_13 rfl (lv_at hl 2 rfl) ?_
        refine lv_iload hx hb dJ1_indexOfChar_4cfef_14 (lv_at hl 0 rfl) ?_
        refine ut_byte C hT h hk (i) (by omega) (by omega) dJ1_indexOfChar_4cfef_16 ?_
        refine lv_iload hx hb dJ1_indexOfChar_4cfef_17 (lv_at hl 1 rfl) ?_
        refine lv_icmp_ne (tgt := 25) hx hb dJ1_indexOfChar_4cfef_19 (by decide) (fun c_2 => ?_) (fun c_2 => ?_)
        · skip
          refine lv_iinc (v := nI (i + 1)) (lv' := [(5, .int (nI (i + 1))), (4, .int x1.toInt8.toInt32), (0, .ref (S.2 k)), (1, .int x1), (2, .int (nI 0)), (3, .int (nI (tLen.getD k 0)))]) hx hb dJ1_indexOfChar_4cfef_25 hl (k := 0) rfl (nI_add i 1) (by decide) rfl (fun ls hl => ?_)
          refine lv_goto (tgt := 7) hx hb dJ1_indexOfChar_4cfef_28 (by decide) ?_
          exact ih7  (i + 1) (by omega) (by omega) (by rw [← hix, show tLen.getD k 0 - i = tLen.getD k 0 - (i + 1) + 1 by omega, tIxF, if_neg c_2]) _ _ _ h (lv_sub hl [0, 1, 2, 3, 4, 5] rfl)
        · skip
          refine lv_iload hx hb dJ1_indexOfChar_4cfef_22 (lv_at hl 0 rfl) ?_
          exact ur_iret C h hr hlocks (⟨rfl, by rw [← hix, show tLen.getD k 0 - i = tLen.getD k 0 - (i + 1) + 1 by omega, tIxF, if_pos c_2]⟩) dJ1_indexOfChar_4cfef_24
  exact lp7 _ 0 (Nat.lt_succ_self _) (Nat.zero_le _) rfl _ _ _ h (lv_sub hl [0, 1, 2, 3, 4, 5] rfl)
set_option maxHeartbeats 1000000 in
set_option maxRecDepth 100000 in
theorem k_J1_indexOf_4cfef (l : Launch) (E : uE) (hI : uI E) (S : uS) (M : uM) (k : Nat) (hk : k < 6) (x1 : Int32) : Met l yJ1_indexOf_4cfef wsJ1_indexOf_4cfef ({ frames := 1, cells := 0, slots := 0, locals := 25 }) (va_Pc [.ref (S.2 k), .int x1, .int (nI 0), .int (nI (tLen.getD k 0))] (uBt E S M)) (va_Qi (fun r u => M = u ∧ r = tIx k x1) (uP E) (uA E)) 0 0 (uA E) := by
  refine u_startT (cc := cJ1_indexOf_4cfef) (maxL := 4) (ret := (some .int)) hI (by decide) rfl (Nat.le_of_ble_eq_true rfl) ?_
  intro p_ e_ s_ m_ bl_ me_ c_ C hT hr hlocks h ls hl
  have hx := C.1.1
  have hb := C.1.2.1
  have hown : s_.vm.findClass RJ1 = some m_.cls := C.1.2.2.2.1
  have hts := C.1.2.2.2.2
  have hl : lv_has ls 4 [(0, .ref (S.2 k)), (1, .int x1), (2, .int (nI 0)), (3, .int (nI (tLen.getD k 0)))] := hl
  have htl := tLen_le k hk
  refine lv_iload_n hx hb dJ1_indexOf_4cfef_0 rfl (lv_at hl 1 rfl) ?_
  refine ur_callSi C h (As := [.int x1]) (rest := []) (k_J1_canEncode_9a6ad l E hI M x1) (va_cwS 1 hts gJ1_indexOf_4cfef_J1_canEncode_9a6ad rfl rfl rfl (by decide +kernel) ⟨Nat.le_of_ble_eq_true rfl, Nat.le_of_ble_eq_true rfl⟩) rfl hl.1 rfl (Nat.le_of_ble_eq_true rfl) dJ1_indexOf_4cfef_1 (fun r_1 M_2 H locs hw_2 h => ?_)
  obtain ⟨hu, er_1⟩ := hw_2
  subst hu
  refine lv_if_ne (tgt := 9) hx hb dJ1_indexOf_4cfef_4 (by decide) (fun c_3 => ?_) (fun c_3 => ?_)
  · skip
    have c_3 : ¬ x1 < 0 ∧ ¬ 255 < x1 := uz_t er_1 c_3
    refine lv_iload_n hx hb dJ1_indexOf_4cfef_9 rfl (lv_at hl 2 rfl) ?_
    refine lv_iconst (v := 0) hx hb dJ1_indexOf_4cfef_10 (by decide) ?_
    refine va_mmax hx hb (by rw [C.1.2.2.1]; exact hl.1.symm) hown (hts (.methodLink RJ1 92 Lib.Math.max.name) (by decide +kernel)) (hts (.static Lib.Math.max.name) (by decide +kernel)) (hts (.initialized "java/lang/Math") (by decide +kernel)) (hts (.code Lib.Math.max.name Lib.Math.max.code 2 (some .int)) (by decide +kernel)) (Nat.le_of_ble_eq_true rfl) (Nat.le_of_ble_eq_true rfl) (Nat.zero_le _) (Nat.zero_le _) dJ1_indexOf_4cfef_11 ?_
    refine ur_eq (y := nI 0) (by first | rfl | exact ite_self _) ?_
    refine lv_istore_n (lv' := [(2, .int (nI 0)), (0, .ref (S.2 k)), (1, .int x1), (3, .int (nI (tLen.getD k 0)))]) hx hb dJ1_indexOf_4cfef_14 rfl hl (by decide) rfl (fun ls hl => ?_)
    refine lv_iload_n hx hb dJ1_indexOf_4cfef_15 rfl (lv_at hl 3 rfl) ?_
    refine lv_aload_n hx hb dJ1_indexOf_4cfef_16 rfl (lv_at hl 1 rfl) ?_
    refine ut_len C hT h hk dJ1_indexOf_4cfef_17 ?_
    refine va_mmin hx hb (by rw [C.1.2.2.1]; exact hl.1.symm) hown (hts (.methodLink RJ1 38 Lib.Math.min.name) (by decide +kernel)) (hts (.static Lib.Math.min.name) (by decide +kernel)) (hts (.initialized "java/lang/Math") (by decide +kernel)) (hts (.code Lib.Math.min.name Lib.Math.min.code 2 (some .int)) (by decide +kernel)) (Nat.le_of_ble_eq_true rfl) (Nat.le_of_ble_eq_true rfl) (Nat.zero_le _) (Nat.zero_le _) dJ1_indexOf_4cfef_18 ?_
    refine ur_eq (y := nI (tLen.getD k 0)) (by first | rfl | exact ite_self _) ?_
    refine lv_istore_n (lv' := [(3, .int (nI (tLen.getD k 0))), (2, .int (nI 0)), (0, .ref (S.2 k)), (1, .int x1)]) hx hb dJ1_indexOf_4cfef_21 rfl hl (by decide) rfl (fun ls hl => ?_)
    refine lv_iload_n hx hb dJ1_indexOf_4cfef_22 rfl (lv_at hl 1 rfl) ?_
    refine lv_iload_n hx hb dJ1_indexOf_4cfef_23 rfl (lv_at hl 0 rfl) ?_
    refine lv_icmp_lt (tgt := 29) hx hb dJ1_indexOf_4cfef_24 (by decide) (fun c_4 => ?_) (fun c_4 => ?_)
    · skip
      have c_4 : 0 < (tLen.getD k 0) := (nI_ltI (a := 0) (b := (tLen.getD k 0)) (by omega) (by omega)).mp c_4
      refine lv_aload_n hx hb dJ1_indexOf_4cfef_29 rfl (lv_at hl 2 rfl) ?_
      refine lv_iload_n hx hb dJ1_indexOf_4cfef_30 rfl (lv_at hl 3 rfl) ?_
      refine lv_iload_n hx hb dJ1_indexOf_4cfef_31 rfl (lv_at hl 1 rfl) ?_
      refine lv_iload_n hx hb dJ1_indexOf_4cfef_32 rfl (lv_at hl 0 rfl) ?_
      refine ut_callSi C hT h (As := [.ref (S.2 k), .int x1, .int (nI 0), .int (nI (tLen.getD k 0))]) (rest := []) (k_J1_indexOfChar_4cfef l E hI S M k hk x1) (va_cwS 4 hts gJ1_indexOf_4cfef_J1_indexOfChar_4cfef rfl rfl rfl (by decide +kernel) ⟨Nat.le_of_ble_eq_true rfl, Nat.le_of_ble_eq_true rfl⟩) rfl hl.1 rfl (Nat.le_of_ble_eq_true rfl) dJ1_indexOf_4cfef_33 (fun r_5 M_6 H locs hw_6 h => ?_)
      obtain ⟨hu, er_5⟩ := hw_6
      subst hu
      refine ur_eq (y := tIxF k x1.toInt8.toInt32 0 (tLen.getD k 0)) er_5 ?_
      exact ur_iret C h hr hlocks (⟨rfl, by unfold tIx; rw [if_neg c_3.1, if_neg c_3.2]⟩) dJ1_indexOf_4cfef_36
    · skip
      have c_4 : ¬ 0 < (tLen.getD k 0) := fun z => c_4 ((nI_ltI (a := 0) (b := (tLen.getD k 0)) (by omega) (by omega)).mpr z)
      refine lv_iconst (v := (-1)) hx hb dJ1_indexOf_4cfef_27 (by decide) ?_
      exact ur_iret C h hr hlocks (⟨rfl, by unfold tIx; rw [if_neg c_3.1, if_neg c_3.2, show tLen.getD k 0 = 0 by omega]; rfl⟩) dJ1_indexOf_4cfef_28
  · skip
    have c_3 : ¬ (¬ x1 < 0 ∧ ¬ 255 < x1) := uz_f er_1 c_3
    refine lv_iconst (v := (-1)) hx hb dJ1_indexOf_4cfef_7 (by decide) ?_
    exact ur_iret C h hr hlocks (⟨rfl, by unfold tIx; by_cases z : x1 < 0; rw [if_pos z]; rw [if_neg z]; by_cases z2 : 255 < x1; rw [if_pos z2]; exact absurd ⟨z, z2⟩ c_3⟩) dJ1_indexOf_4cfef_8
set_option maxHeartbeats 1000000 in
set_option maxRecDepth 100000 in
theorem k_J0_indexOf_7cf53 (l : Launch) (E : uE) (hI : uI E) (S : uS) (M : uM) (k : Nat) (hk : k < 6) (x1 : Int32) : Met l yJ0_indexOf_7cf53 wsJ0_indexOf_7cf53 ({ frames := 2, cells := 0, slots := 0, locals := 48 }) (va_Pc [.ref (S.1 k), .int x1, .int (nI 0)] (uBt E S M)) (va_Qi (fun r u => M = u ∧ r = tIx k x1) (uP E) (uA E)) 0 0 (uA E) := by
  refine u_startT (cc := cJ0_indexOf_7cf53) (maxL := 3) (ret := (some .int)) hI (by decide) rfl (Nat.le_of_ble_eq_true rfl) ?_
  intro p_ e_ s_ m_ bl_ me_ c_ C hT hr hlocks h ls hl
  have hx := C.1.1
  have hb := C.1.2.1
  have hown : s_.vm.findClass RJ0 = some m_.cls := C.1.2.2.2.1
  have hts := C.1.2.2.2.2
  have hl : lv_has ls 3 [(0, .ref (S.1 k)), (1, .int x1), (2, .int (nI 0))] := hl
  refine lv_aload_n hx hb dJ0_indexOf_7cf53_0 rfl (lv_at hl 0 rfl) ?_
  refine ut_callTi C hT h (k := k) hk (As := []) (rest := []) (k_J0_isLatin1_aae02 l E hI S M k hk) (cwV 0 hts gJ0_indexOf_7cf53_J0_isLatin1_aae02 rfl rfl rfl (by decide +kernel) ⟨Nat.le_of_ble_eq_true rfl, Nat.le_of_ble_eq_true rfl⟩) rfl hl.1 rfl (Nat.le_of_ble_eq_true rfl) dJ0_indexOf_7cf53_1 (fun r_1 M_2 H locs hw_2 h => ?_)
  obtain ⟨hu, er_1⟩ := hw_2
  subst hu
  refine ur_eq (y := 1) er_1 ?_
  refine lv_if_eq (tgt := 23) hx hb dJ0_indexOf_7cf53_4 (by decide) (fun z => absurd z (by decide)) (fun c_3 => ?_)
  refine lv_aload_n hx hb dJ0_indexOf_7cf53_7 rfl (lv_at hl 0 rfl) ?_
  refine ut_value C hT h hk (by decide +kernel) dJ0_indexOf_7cf53_8 ?_
  refine lv_iload_n hx hb dJ0_indexOf_7cf53_11 rfl (lv_at hl 1 rfl) ?_
  refine lv_iload_n hx hb dJ0_indexOf_7cf53_12 rfl (lv_at hl 2 rfl) ?_
  refine lv_aload_n hx hb dJ0_indexOf_7cf53_13 rfl (lv_at hl 0 rfl) ?_
  refine ut_callTi C hT h (k := k) hk (As := []) (rest := [.int (nI 0), .int x1, .ref (S.2 k)]) (k_J0_length_8abf5 l E hI S M k hk) (cwV 0 hts gJ0_indexOf_7cf53_J0_length_8abf5 rfl rfl rfl (by decide +kernel) ⟨Nat.le_of_ble_eq_true rfl, Nat.le_of_ble_eq_true rfl⟩) rfl hl.1 rfl (Nat.le_of_ble_eq_true rfl) dJ0_indexOf_7cf53_14 (fun r_4 M_5 H locs hw_5 h => ?_)
  obtain ⟨hu, er_4⟩ := hw_5
  subst hu
  refine ur_eq (y := nI (tLen.getD k 0)) er_4 ?_
  refine ut_callSi C hT h (As := [.ref (S.2 k), .int x1, .int (nI 0), .int (nI (tLen.getD k 0))]) (rest := []) (k_J1_indexOf_4cfef l E hI S M k hk x1) (va_cwS 4 hts gJ0_indexOf_7cf53_J1_indexOf_4cfef rfl rfl rfl (by decide +kernel) ⟨Nat.le_of_ble_eq_true rfl, Nat.le_of_ble_eq_true rfl⟩) rfl hl.1 rfl (Nat.le_of_ble_eq_true rfl) dJ0_indexOf_7cf53_17 (fun r_6 M_7 H locs hw_7 h => ?_)
  obtain ⟨hu, er_6⟩ := hw_7
  subst hu
  refine ur_eq (y := tIx k x1) er_6 ?_
  refine lv_goto (tgt := 36) hx hb dJ0_indexOf_7cf53_20 (by decide) ?_
  exact ur_iret C h hr hlocks (⟨rfl, rfl⟩) dJ0_indexOf_7cf53_36
set_option maxHeartbeats 1000000 in
set_option maxRecDepth 100000 in
theorem k_J0_indexOf_0f7a4 (l : Launch) (E : uE) (hI : uI E) (S : uS) (M : uM) (k : Nat) (hk : k < 6) (x1 : Int32) : Met l yJ0_indexOf_0f7a4 wsJ0_indexOf_0f7a4 ({ frames := 3, cells := 0, slots := 0, locals := 70 }) (va_Pc [.ref (S.1 k), .int x1] (uBt E S M)) (va_Qi (fun r u => M = u ∧ r = tIx k x1) (uP E) (uA E)) 0 0 (uA E) := by
  refine u_startT (cc := cJ0_indexOf_0f7a4) (maxL := 2) (ret := (some .int)) hI (by decide) rfl (Nat.le_of_ble_eq_true rfl) ?_
  intro p_ e_ s_ m_ bl_ me_ c_ C hT hr hlocks h ls hl
  have hx := C.1.1
  have hb := C.1.2.1
  have hown : s_.vm.findClass RJ0 = some m_.cls := C.1.2.2.2.1
  have hts := C.1.2.2.2.2
  have hl : lv_has ls 2 [(0, .ref (S.1 k)), (1, .int x1)] := hl
  refine lv_aload_n hx hb dJ0_indexOf_0f7a4_0 rfl (lv_at hl 0 rfl) ?_
  refine lv_iload_n hx hb dJ0_indexOf_0f7a4_1 rfl (lv_at hl 1 rfl) ?_
  refine lv_iconst (v := 0) hx hb dJ0_indexOf_0f7a4_2 (by decide) ?_
  refine ut_callTi C hT h (k := k) hk (As := [.int x1, .int 0]) (rest := []) (k_J0_indexOf_7cf53 l E hI S M k hk x1) (cwV 2 hts gJ0_indexOf_0f7a4_J0_indexOf_7cf53 rfl rfl rfl (by decide +kernel) ⟨Nat.le_of_ble_eq_true rfl, Nat.le_of_ble_eq_true rfl⟩) rfl hl.1 rfl (Nat.le_of_ble_eq_true rfl) dJ0_indexOf_0f7a4_3 (fun r_1 M_2 H locs hw_2 h => ?_)
  obtain ⟨hu, er_1⟩ := hw_2
  subst hu
  refine ur_eq (y := tIx k x1) er_1 ?_
  exact ur_iret C h hr hlocks (⟨rfl, rfl⟩) dJ0_indexOf_0f7a4_6
set_option maxHeartbeats 1000000 in
set_option maxRecDepth 100000 in
theorem k_X5_nextLetter (l : Launch) (E : uE) (hI : uI E) (M : uM) (ty : Nat) (hty : M.1 240 1 = nI ty) (hty90 : ty ≤ 90) (hch : ∀ i, i < ty → narrow .char (.int (M.1 241 i)) = .int (M.1 241 i)) (p : Nat) (hp : M.1 240 2 = nI p) (hpt : p ≤ ty) : Met l yX5_nextLetter wsX5_nextLetter ({ frames := 0, cells := 0, slots := 0, locals := 0 }) (va_Pc [.ref (E.2.1 240)] (uB E M)) (va_Qi (fun r u => u = uSet M 240 2 (nI (tSk (M.1 241) ty p)) ∧ r = (tAt (M.1 241) ty p)) (uP E) (uA E)) 0 0 (uA E) := by
  have hin5 : ∀ w ∈ wsX50, w ∈ wsX5_nextLetter := by decide +kernel
  refine u_start (cc := cX5_nextLetter) (maxL := 1) (ret := (some .char)) hI (by decide) rfl (Nat.le_of_ble_eq_true rfl) ?_
  intro p_ e_ s_ m_ bl_ me_ c_ C hr hlocks h ls hl
  have hx := C.1.1
  have hb := C.1.2.1
  have hown : s_.vm.findClass RX5 = some m_.cls := C.1.2.2.2.1
  have hts := C.1.2.2.2.2
  have hl : lv_has ls 1 [(0, .ref (E.2.1 240))] := hl
  have lp0 : ∀ (n0 : Nat) (q : Nat) (Mq : uM), ty - q < n0 → (p ≤ q) → (q ≤ ty) → (Mq = uSet M 240 2 (nI q)) → (tSk (M.1 241) ty q = tSk (M.1 241) ty p) → ∀ (H : Heap) (locs : List Loc) (ls : Array Slot), uH E Mq s_ H locs → lv_has ls 1 [(0, .ref (E.2.1 240))] → W p_ l e_ ({ frames := 0, cells := 0, slots := 0, locals := 0 }) s_ m_ (List.toArray [.ref (E.2.1 240)]) bl_ me_ c_ H locs 0 0 (MQ bl_ (va_Qi (fun r u => u = uSet M 240 2 (nI (tSk (M.1 241) ty p)) ∧ r = (tAt (M.1 241) ty p)) (uP E) (uA E)) (List.toArray [.ref (E.2.1 240)]) s_ 0 0 (uA E)) (F0 m_ 0 ls []) := by
    intro n0
    induction n0 with
    | zero => intro q Mq hms; exact absurd hms (Nat.not_lt_zero _)
    | succ n0 ih0 =>
      intro q Mq hms0 hq hq2 hMq hsk H locs ls h hl
      refine lv_aload_n hx hb dX5_nextLetter_0 rfl (lv_at hl 0 rfl) ?_
      have hL : Mq.1 241 = M.1 241 := by rw [hMq]; rfl
      refine ur_get C h 240 (by decide) (uc_240 E _) (Cn := RX5) (T := TX5) (N := 4) rfl hin5 2 (by decide) (by decide +kernel) rfl dX5_nextLetter_1 ?_
      refine ur_eq (y := nI q) ((by rw [hMq]; rfl)) ?_
      refine lv_aload_n hx hb dX5_nextLetter_4 rfl (lv_at hl 0 rfl) ?_
      refine ur_get C h 240 (by decide) (uc_240 E _) (Cn := RX5) (T := TX5) (N := 4) rfl hin5 1 (by decide) (by decide +kernel) rfl dX5_nextLetter_5 ?_
      refine ur_eq (y := nI ty) ((by rw [hMq, u_set1, if_pos rfl, if_neg (by decide)]; exact hty)) ?_
      refine lv_icmp_ge (tgt := 38) hx hb dX5_nextLetter_8 (by decide) (fun c_1 => ?_) (fun c_1 => ?_)
      · skip
        have c_1 : ty ≤ q := (nI_leI (a := ty) (b := q) (by omega) (by omega)).mp c_1
        refine lv_aload_n hx hb dX5_nextLetter_38 rfl (lv_at hl 0 rfl) ?_
        refine ur_get C h 240 (by decide) (uc_240 E _) (Cn := RX5) (T := TX5) (N := 4) rfl hin5 2 (by decide) (by decide +kernel) rfl dX5_nextLetter_39 ?_
        refine ur_eq (y := nI q) ((by rw [hMq]; rfl)) ?_
        refine lv_aload_n hx hb dX5_nextLetter_42 rfl (lv_at hl 0 rfl) ?_
        refine ur_get C h 240 (by decide) (uc_240 E _) (Cn := RX5) (T := TX5) (N := 4) rfl hin5 1 (by decide) (by decide +kernel) rfl dX5_nextLetter_43 ?_
        refine ur_eq (y := nI ty) ((by rw [hMq, u_set1, if_pos rfl, if_neg (by decide)]; exact hty)) ?_
        refine lv_icmp_ge (tgt := 61) hx hb dX5_nextLetter_46 (by decide) (fun c_2 => ?_) (fun c_2 => ?_)
        · skip
          have c_2 : ty ≤ q := (nI_leI (a := ty) (b := q) (by omega) (by omega)).mp c_2
          refine lv_iconst (v := 0) hx hb dX5_nextLetter_61 (by decide) ?_
          exact ur_zret C h hr (by rfl) hlocks (⟨by rw [← hsk, tSk_end c_1]; exact hMq, by unfold tAt; rw [← hsk, tSk_end c_1, if_neg (by omega)]⟩) dX5_nextLetter_62
        · skip
          have c_2 : ¬ ty ≤ q := fun z => c_2 ((nI_leI (a := ty) (b := q) (by omega) (by omega)).mpr z)
          exact absurd c_1 c_2
      · skip
        have c_1 : ¬ ty ≤ q := fun z => c_1 ((nI_leI (a := ty) (b := q) (by omega) (by omega)).mpr z)
        refine lv_aload_n hx hb dX5_nextLetter_11 rfl (lv_at hl 0 rfl) ?_
        refine ur_get C h 240 (by decide) (uc_240 E _) (Cn := RX5) (T := TX5) (N := 4) rfl hin5 0 (by decide) (by decide +kernel) rfl dX5_nextLetter_12 ?_
        refine lv_aload_n hx hb dX5_nextLetter_15 rfl (lv_at hl 0 rfl) ?_
        refine ur_get C h 240 (by decide) (uc_240 E _) (Cn := RX5) (T := TX5) (N := 4) rfl hin5 2 (by decide) (by decide +kernel) rfl dX5_nextLetter_16 ?_
        refine ur_eq (y := nI q) ((by rw [hMq]; rfl)) ?_
        refine ur_cald C h 241 (by decide) (uc_241 E _) (q) (by omega) (by decide) dX5_nextLetter_19 ?_
        refine lv_bipush (v := 32) hx hb dX5_nextLetter_20 (by decide) ?_
        refine lv_icmp_ne (tgt := 38) hx hb dX5_nextLetter_22 (by decide) (fun c_3 => ?_) (fun c_3 => ?_)
        · skip
          refine lv_aload_n hx hb dX5_nextLetter_38 rfl (lv_at hl 0 rfl) ?_
          refine ur_get C h 240 (by decide) (uc_240 E _) (Cn := RX5) (T := TX5) (N := 4) rfl hin5 2 (by decide) (by decide +kernel) rfl dX5_nextLetter_39 ?_
          refine ur_eq (y := nI q) ((by rw [hMq]; rfl)) ?_
          refine lv_aload_n hx hb dX5_nextLetter_42 rfl (lv_at hl 0 rfl) ?_
          refine ur_get C h 240 (by decide) (uc_240 E _) (Cn := RX5) (T := TX5) (N := 4) rfl hin5 1 (by decide) (by decide +kernel) rfl dX5_nextLetter_43 ?_
          refine ur_eq (y := nI ty) ((by rw [hMq, u_set1, if_pos rfl, if_neg (by decide)]; exact hty)) ?_
          refine lv_icmp_ge (tgt := 61) hx hb dX5_nextLetter_46 (by decide) (fun c_4 => ?_) (fun c_4 => ?_)
          · skip
            have c_4 : ty ≤ q := (nI_leI (a := ty) (b := q) (by omega) (by omega)).mp c_4
            exact absurd c_4 c_1
          · skip
            have c_4 : ¬ ty ≤ q := fun z => c_4 ((nI_leI (a := ty) (b := q) (by omega) (by omega)).mpr z)
            refine lv_aload_n hx hb dX5_nextLetter_49 rfl (lv_at hl 0 rfl) ?_
            refine ur_get C h 240 (by decide) (uc_240 E _) (Cn := RX5) (T := TX5) (N := 4) rfl hin5 0 (by decide) (by decide +kernel) rfl dX5_nextLetter_50 ?_
            refine lv_aload_n hx hb dX5_nextLetter_53 rfl (lv_at hl 0 rfl) ?_
            refine ur_get C h 240 (by decide) (uc_240 E _) (Cn := RX5) (T := TX5) (N := 4) rfl hin5 2 (by decide) (by decide +kernel) rfl dX5_nextLetter_54 ?_
            refine ur_eq (y := nI q) ((by rw [hMq]; rfl)) ?_
            refine ur_cald C h 241 (by decide) (uc_241 E _) (q) (by omega) (by decide) dX5_nextLetter_57 ?_
            refine lv_goto (tgt := 62) hx hb dX5_nextLetter_58 (by decide) ?_
            exact ur_zret C h hr (by rw [hL]; exact hch q (by omega)) hlocks (by have hst := tSk_stop (L := M.1 241) (n := ty) (q := q) (by omega) (by rw [← hL]; exact c_3); exact ⟨by rw [← hsk, hst]; exact hMq, by unfold tAt; rw [← hsk, hst, if_pos (by omega), hL]⟩) dX5_nextLetter_62
        · skip
          refine lv_aload_n hx hb dX5_nextLetter_25 rfl (lv_at hl 0 rfl) ?_
          refine lv_dup hx hb dX5_nextLetter_26 rfl ?_
          refine ur_get C h 240 (by decide) (uc_240 E _) (Cn := RX5) (T := TX5) (N := 4) rfl hin5 2 (by decide) (by decide +kernel) rfl dX5_nextLetter_27 ?_
          refine ur_eq (y := nI q) ((by rw [hMq]; rfl)) ?_
          refine lv_iconst (v := 1) hx hb dX5_nextLetter_30 (by decide) ?_
          refine lv_iadd hx hb dX5_nextLetter_31 ?_
          refine ur_eq (y := nI (q + 1)) (nI_add q 1) ?_
          refine ur_puti C h 240 (by decide) (uc_240 E _) (Cn := RX5) (T := TX5) (N := 4) rfl hin5 tyX5 tyX5_ok nmX5 2 (by decide) (by decide +kernel) rfl rfl rfl (Nat.le_of_ble_eq_true rfl) (us_240_2 E _ _) dX5_nextLetter_32 (fun M_5 H locs eM_5 h => ?_)
          refine lv_goto (tgt := 0) hx hb dX5_nextLetter_35 (by decide) ?_
          exact ih0  (q + 1) M_5 (by omega) (by omega) (by omega) (by rw [eM_5, hMq, u_set_set]) ((tSk_step (by omega) (by rw [← hL]; exact c_3)).trans hsk) _ _ _ h (lv_sub hl [0] rfl)
  exact lp0 _ p M (Nat.lt_succ_self _) (Nat.le_refl _) hpt (u_set_self hp).symm rfl _ _ _ h (lv_sub hl [0] rfl)
set_option maxHeartbeats 1000000 in
set_option maxRecDepth 100000 in
theorem k_X5_take (l : Launch) (E : uE) (hI : uI E) (S : uS) (M : uM) (k : Nat) (hk : k < 6) (x2 : Int32) (ty : Nat) (hty : M.1 240 1 = nI ty) (hty90 : ty ≤ 90) (hch : ∀ i, i < ty → narrow .char (.int (M.1 241 i)) = .int (M.1 241 i)) (p : Nat) (hp : M.1 240 2 = nI p) (hpt : p ≤ ty) : Met l yX5_take wsX5_take ({ frames := 4, cells := 0, slots := 0, locals := 91 }) (va_Pc [.ref (E.2.1 240), .ref (S.1 k), .int x2] (uBt E S M)) (va_Qi (fun r u => u = uSet M 240 2 (nI (if x2 ≤ (tIx k (tAt (M.1 241) ty p)) then (tSk (M.1 241) ty p) + 1 else (tSk (M.1 241) ty p))) ∧ r = if x2 ≤ (tIx k (tAt (M.1 241) ty p)) then (tIx k (tAt (M.1 241) ty p)) else -4) (uP E) (uA E)) 0 0 (uA E) := by
  have hin5 : ∀ w ∈ wsX50, w ∈ wsX5_take := by decide +kernel
  refine u_startT (cc := cX5_take) (maxL := 4) (ret := (some .int)) hI (by decide) rfl (Nat.le_of_ble_eq_true rfl) ?_
  intro p_ e_ s_ m_ bl_ me_ c_ C hT hr hlocks h ls hl
  have hx := C.1.1
  have hb := C.1.2.1
  have hown : s_.vm.findClass RX5 = some m_.cls := C.1.2.2.2.1
  have hts := C.1.2.2.2.2
  have hl : lv_has ls 4 [(0, .ref (E.2.1 240)), (1, .ref (S.1 k)), (2, .int x2)] := hl
  refine lv_aload_n hx hb dX5_take_0 rfl (lv_at hl 1 rfl) ?_
  refine lv_aload_n hx hb dX5_take_1 rfl (lv_at hl 0 rfl) ?_
  refine ur_callVi C h (k := 240) (As := []) (rest := [.ref (S.1 k)]) (k_X5_nextLetter l E hI M ty hty hty90 hch p (hp) hpt) (cwV 0 hts gX5_take_X5_nextLetter rfl rfl rfl (by decide +kernel) ⟨Nat.le_of_ble_eq_true rfl, Nat.le_of_ble_eq_true rfl⟩) (by decide) (uc_240 E _) (T := TX5) (N := 4) rfl rfl hl.1 rfl (Nat.le_of_ble_eq_true rfl) dX5_take_2 (fun r_1 M_2 H locs hw_2 h => ?_)
  obtain ⟨eM_2, er_1⟩ := hw_2
  refine ur_eq (y := tAt (M.1 241) ty p) er_1 ?_
  refine ut_callTi C hT h (k := k) hk (As := [.int (tAt (M.1 241) ty p)]) (rest := []) (k_J0_indexOf_0f7a4 l E hI S M_2 k hk (tAt (M.1 241) ty p)) (cwV 1 hts gX5_take_J0_indexOf_0f7a4 rfl rfl rfl (by decide +kernel) ⟨Nat.le_of_ble_eq_true rfl, Nat.le_of_ble_eq_true rfl⟩) rfl hl.1 rfl (Nat.le_of_ble_eq_true rfl) dX5_take_5 (fun r_3 M_4 H locs hw_4 h => ?_)
  obtain ⟨hu, er_3⟩ := hw_4
  subst hu
  refine ur_eq (y := tIx k (tAt (M.1 241) ty p)) er_3 ?_
  refine lv_topi (fun v_5 ev_5 => ?_)
  refine lv_istore_n (lv' := [(3, .int v_5), (0, .ref (E.2.1 240)), (1, .ref (S.1 k)), (2, .int x2)]) hx hb dX5_take_8 rfl hl (by decide) rfl (fun ls hl => ?_)
  refine lv_iload_n hx hb dX5_take_9 rfl (lv_at hl 0 rfl) ?_
  refine lv_iload_n hx hb dX5_take_10 rfl (lv_at hl 3 rfl) ?_
  refine lv_icmp_ge (tgt := 17) hx hb dX5_take_11 (by decide) (fun c_6 => ?_) (fun c_6 => ?_)
  · skip
    refine lv_aload_n hx hb dX5_take_17 rfl (lv_at hl 1 rfl) ?_
    refine lv_dup hx hb dX5_take_18 rfl ?_
    refine ur_get C h 240 (by decide) (uc_240 E _) (Cn := RX5) (T := TX5) (N := 4) rfl hin5 2 (by decide) (by decide +kernel) rfl dX5_take_19 ?_
    refine ur_eq (y := nI (tSk (M.1 241) ty p)) (by rw [eM_2, u_set1, if_pos rfl, if_pos rfl]; try rfl) ?_
    refine lv_iconst (v := 1) hx hb dX5_take_22 (by decide) ?_
    refine lv_iadd hx hb dX5_take_23 ?_
    refine ur_eq (y := nI (tSk (M.1 241) ty p + 1)) (nI_add (tSk (M.1 241) ty p) 1) ?_
    refine ur_puti C h 240 (by decide) (uc_240 E _) (Cn := RX5) (T := TX5) (N := 4) rfl hin5 tyX5 tyX5_ok nmX5 2 (by decide) (by decide +kernel) rfl rfl rfl (Nat.le_of_ble_eq_true rfl) (us_240_2 E _ _) dX5_take_24 (fun M_7 H locs eM_7 h => ?_)
    refine lv_iload_n hx hb dX5_take_27 rfl (lv_at hl 0 rfl) ?_
    exact ur_iret C h hr hlocks (by subst eM_2; subst ev_5; subst eM_7; rw [if_pos c_6, if_pos c_6]; exact ⟨u_set_set _ _ _ _ _, rfl⟩) dX5_take_28
  · skip
    refine lv_bipush (v := (-4)) hx hb dX5_take_14 (by decide) ?_
    exact ur_iret C h hr hlocks (by subst eM_2; subst ev_5; rw [if_neg c_6, if_neg c_6]; exact ⟨rfl, rfl⟩) dX5_take_16
