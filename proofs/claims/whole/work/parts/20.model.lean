set_option maxHeartbeats 4000000 in
set_option maxRecDepth 100000 in
theorem k_X7_in (l : Launch) (E : uE) (hI : uI E) (M : uM) (x0 x1 x2 : Int64) : Met l yX7_in wsX7_in ({ frames := 0, cells := 0, slots := 0, locals := 0 }) (va_Pc [.long x0, .long x1, .long x2] (uB E M)) (va_Qi (fun r u => M = u ∧ r = if x1.toInt ≤ x0.toInt ∧ x0.toInt ≤ x2.toInt then 1 else 0) (uP E) (uA E)) 0 0 (uA E) := by
  refine u_start (cc := cX7_in) (maxL := 6) (ret := (some .boolean)) hI (by decide) rfl (Nat.le_of_ble_eq_true rfl) ?_
  intro p_ e_ s_ m_ bl_ me_ c_ C hr hlocks h ls hl
  have hx := C.1.1
  have hb := C.1.2.1
  have hown : s_.vm.findClass RX7 = some m_.cls := C.1.2.2.2.1
  have hts := C.1.2.2.2.2
  have hl : lv_has ls 6 [(0, .long x0), (2, .long x1), (4, .long x2)] := hl
  refine lv_lload_n hx hb dX7_in_0 rfl (lv_at hl 0 rfl) ?_
  refine lv_lload_n hx hb dX7_in_1 rfl (lv_at hl 1 rfl) ?_
  refine W.lcmp hx hb dX7_in_2 ?_
  refine lv_if_lt (tgt := 17) hx hb dX7_in_3 (by decide) (fun c_1 => ?_) (fun c_1 => ?_)
  · skip
    have c_1 : x0 < x1 := (ul_lt x0 x1).mp c_1
    refine lv_iconst (v := 0) hx hb dX7_in_17 (by decide) ?_
    exact ur_zret C h hr (by rfl) hlocks (⟨rfl, (if_neg (by simp only [Int64.lt_iff_toInt_lt, Int64.le_iff_toInt_le, Int32.lt_iff_toInt_lt, Int32.le_iff_toInt_le, Int.not_lt, Int.not_le] at c_1; omega)).symm⟩) dX7_in_18
  · skip
    have c_1 : ¬ x0 < x1 := fun z => c_1 ((ul_lt x0 x1).mpr z)
    refine lv_lload_n hx hb dX7_in_6 rfl (lv_at hl 0 rfl) ?_
    refine lv_lload hx hb dX7_in_7 (lv_at hl 2 rfl) ?_
    refine W.lcmp hx hb dX7_in_9 ?_
    refine lv_if_gt (tgt := 17) hx hb dX7_in_10 (by decide) (fun c_2 => ?_) (fun c_2 => ?_)
    · skip
      have c_2 : x2 < x0 := (ul_gt x0 x2).mp c_2
      refine lv_iconst (v := 0) hx hb dX7_in_17 (by decide) ?_
      exact ur_zret C h hr (by rfl) hlocks (⟨rfl, (if_neg (by simp only [Int64.lt_iff_toInt_lt, Int64.le_iff_toInt_le, Int32.lt_iff_toInt_lt, Int32.le_iff_toInt_le, Int.not_lt, Int.not_le] at c_1 c_2; omega)).symm⟩) dX7_in_18
    · skip
      have c_2 : ¬ x2 < x0 := fun z => c_2 ((ul_gt x0 x2).mpr z)
      refine lv_iconst (v := 1) hx hb dX7_in_13 (by decide) ?_
      refine lv_goto (tgt := 18) hx hb dX7_in_14 (by decide) ?_
      exact ur_zret C h hr (by rfl) hlocks (⟨rfl, (if_pos (by simp only [Int64.lt_iff_toInt_lt, Int64.le_iff_toInt_le, Int32.lt_iff_toInt_lt, Int32.le_iff_toInt_le, Int.not_lt, Int.not_le] at c_1 c_2; omega)).symm⟩) dX7_in_18
set_option maxHeartbeats 4000000 in
set_option maxRecDepth 100000 in
theorem k_X7_told (l : Launch) (E : uE) (hI : uI E) (M : uM) (p w : Nat) (hpw : 7 + 10 * p + w < 115) : Met l yX7_told wsX7_told ({ frames := 0, cells := 0, slots := 0, locals := 0 }) (va_Pc [.ref (E.2.1 251), .int (nI p), .int (nI w)] (uB E M)) (va_Qi (fun r u => M = u ∧ r = M.1 252 (7 + 10 * p + w)) (uP E) (uA E)) 0 0 (uA E) := by
  have hin7 : ∀ w ∈ wsX70, w ∈ wsX7_told := by decide +kernel
  refine u_start (cc := cX7_told) (maxL := 3) (ret := (some .int)) hI (by decide) rfl (Nat.le_of_ble_eq_true rfl) ?_
  intro p_ e_ s_ m_ bl_ me_ c_ C hr hlocks h ls hl
  have hx := C.1.1
  have hb := C.1.2.1
  have hown : s_.vm.findClass RX7 = some m_.cls := C.1.2.2.2.1
  have hts := C.1.2.2.2.2
  have hl : lv_has ls 3 [(0, .ref (E.2.1 251)), (1, .int (nI p)), (2, .int (nI w))] := hl
  refine lv_aload_n hx hb dX7_told_0 rfl (lv_at hl 0 rfl) ?_
  refine ur_get C h 251 (by decide) (uc_251 E _) (Cn := RX7) (T := TX7) (N := 17) rfl hin7 0 (by decide) (by decide +kernel) rfl dX7_told_1 ?_
  refine lv_bipush (v := 7) hx hb dX7_told_4 (by decide) ?_
  refine lv_bipush (v := 10) hx hb dX7_told_6 (by decide) ?_
  refine lv_iload_n hx hb dX7_told_8 rfl (lv_at hl 1 rfl) ?_
  refine lv_imul hx hb dX7_told_9 ?_
  refine ur_eq (y := nI (10 * p)) (pk_mul 10 p) ?_
  refine lv_iadd hx hb dX7_told_10 ?_
  refine ur_eq (y := nI (7 + 10 * p)) (nI_add 7 (10 * p)) ?_
  refine lv_iload_n hx hb dX7_told_11 rfl (lv_at hl 2 rfl) ?_
  refine lv_iadd hx hb dX7_told_12 ?_
  refine ur_eq (y := nI (7 + 10 * p + w)) (nI_add (7 + 10 * p) w) ?_
  refine ur_iald C h 252 (by decide) (uc_252 E _) (7 + 10 * p + w) (by omega) (by decide) dX7_told_13 ?_
  exact ur_iret C h hr hlocks (⟨rfl, rfl⟩) dX7_told_14
set_option maxHeartbeats 4000000 in
set_option maxRecDepth 100000 in
theorem k_X7_sounds (l : Launch) (E : uE) (hI : uI E) (M : uM) (w : Nat) (hw : 67 + 2 * w < 115) : Met l yX7_sounds wsX7_sounds ({ frames := 0, cells := 0, slots := 0, locals := 0 }) (va_Pc [.ref (E.2.1 251), .int (nI w)] (uB E M)) (va_Qi (fun r u => M = u ∧ r = M.1 252 (67 + 2 * w)) (uP E) (uA E)) 0 0 (uA E) := by
  have hin7 : ∀ w ∈ wsX70, w ∈ wsX7_sounds := by decide +kernel
  refine u_start (cc := cX7_sounds) (maxL := 2) (ret := (some .int)) hI (by decide) rfl (Nat.le_of_ble_eq_true rfl) ?_
  intro p_ e_ s_ m_ bl_ me_ c_ C hr hlocks h ls hl
  have hx := C.1.1
  have hb := C.1.2.1
  have hown : s_.vm.findClass RX7 = some m_.cls := C.1.2.2.2.1
  have hts := C.1.2.2.2.2
  have hl : lv_has ls 2 [(0, .ref (E.2.1 251)), (1, .int (nI w))] := hl
  refine lv_aload_n hx hb dX7_sounds_0 rfl (lv_at hl 0 rfl) ?_
  refine ur_get C h 251 (by decide) (uc_251 E _) (Cn := RX7) (T := TX7) (N := 17) rfl hin7 0 (by decide) (by decide +kernel) rfl dX7_sounds_1 ?_
  refine lv_bipush (v := 67) hx hb dX7_sounds_4 (by decide) ?_
  refine lv_iconst (v := 2) hx hb dX7_sounds_6 (by decide) ?_
  refine lv_iload_n hx hb dX7_sounds_7 rfl (lv_at hl 1 rfl) ?_
  refine lv_imul hx hb dX7_sounds_8 ?_
  refine ur_eq (y := nI (2 * w)) (pk_mul 2 w) ?_
  refine lv_iadd hx hb dX7_sounds_9 ?_
  refine ur_eq (y := nI (67 + 2 * w)) (nI_add 67 (2 * w)) ?_
  refine ur_iald C h 252 (by decide) (uc_252 E _) (67 + 2 * w) (by omega) (by decide) dX7_sounds_10 ?_
  exact ur_iret C h hr hlocks (⟨rfl, rfl⟩) dX7_sounds_11
set_option maxHeartbeats 4000000 in
set_option maxRecDepth 100000 in
theorem k_X7_wornOf (l : Launch) (E : uE) (hI : uI E) (M : uM) (w : Nat) (hw : 67 + 2 * w + 1 < 115) : Met l yX7_wornOf wsX7_wornOf ({ frames := 0, cells := 0, slots := 0, locals := 0 }) (va_Pc [.ref (E.2.1 251), .int (nI w)] (uB E M)) (va_Qi (fun r u => M = u ∧ r = M.1 252 (67 + 2 * w + 1)) (uP E) (uA E)) 0 0 (uA E) := by
  have hin7 : ∀ w ∈ wsX70, w ∈ wsX7_wornOf := by decide +kernel
  refine u_start (cc := cX7_wornOf) (maxL := 2) (ret := (some .int)) hI (by decide) rfl (Nat.le_of_ble_eq_true rfl) ?_
  intro p_ e_ s_ m_ bl_ me_ c_ C hr hlocks h ls hl
  have hx := C.1.1
  have hb := C.1.2.1
  have hown : s_.vm.findClass RX7 = some m_.cls := C.1.2.2.2.1
  have hts := C.1.2.2.2.2
  have hl : lv_has ls 2 [(0, .ref (E.2.1 251)), (1, .int (nI w))] := hl
  refine lv_aload_n hx hb dX7_wornOf_0 rfl (lv_at hl 0 rfl) ?_
  refine ur_get C h 251 (by decide) (uc_251 E _) (Cn := RX7) (T := TX7) (N := 17) rfl hin7 0 (by decide) (by decide +kernel) rfl dX7_wornOf_1 ?_
  refine lv_bipush (v := 67) hx hb dX7_wornOf_4 (by decide) ?_
  refine lv_iconst (v := 2) hx hb dX7_wornOf_6 (by decide) ?_
  refine lv_iload_n hx hb dX7_wornOf_7 rfl (lv_at hl 1 rfl) ?_
  refine lv_imul hx hb dX7_wornOf_8 ?_
  refine ur_eq (y := nI (2 * w)) (pk_mul 2 w) ?_
  refine lv_iadd hx hb dX7_wornOf_9 ?_
  refine ur_eq (y := nI (67 + 2 * w)) (nI_add 67 (2 * w)) ?_
  refine lv_iconst (v := 1) hx hb dX7_wornOf_10 (by decide) ?_
  refine lv_iadd hx hb dX7_wornOf_11 ?_
  refine ur_eq (y := nI (67 + 2 * w + 1)) (nI_add (67 + 2 * w) 1) ?_
  refine ur_iald C h 252 (by decide) (uc_252 E _) (67 + 2 * w + 1) (by omega) (by decide) dX7_wornOf_12 ?_
  exact ur_iret C h hr hlocks (⟨rfl, rfl⟩) dX7_wornOf_13
set_option maxHeartbeats 4000000 in
set_option maxRecDepth 100000 in
theorem k_X7_ten (l : Launch) (E : uE) (hI : uI E) (M : uM) (x0 : Int32) : Met l yX7_ten wsX7_ten ({ frames := 0, cells := 0, slots := 0, locals := 0 }) (va_Pc [.int x0] (uB E M)) (va_Qi (fun r u => M = u ∧ r = uTen x0) (uP E) (uA E)) 0 0 (uA E) := by
  refine u_start (cc := cX7_ten) (maxL := 1) (ret := (some .int)) hI (by decide) rfl (Nat.le_of_ble_eq_true rfl) ?_
  intro p_ e_ s_ m_ bl_ me_ c_ C hr hlocks h ls hl
  have hx := C.1.1
  have hb := C.1.2.1
  have hown : s_.vm.findClass RX7 = some m_.cls := C.1.2.2.2.1
  have hts := C.1.2.2.2.2
  have hl : lv_has ls 1 [(0, .int x0)] := hl
  refine lv_iload_n hx hb dX7_ten_0 rfl (lv_at hl 0 rfl) ?_
  refine lv_bipush (v := 10) hx hb dX7_ten_1 (by decide) ?_
  refine lv_icmp_le (tgt := 11) hx hb dX7_ten_3 (by decide) (fun c_1 => ?_) (fun c_1 => ?_)
  · skip
    refine lv_iload_n hx hb dX7_ten_11 rfl (lv_at hl 0 rfl) ?_
    exact ur_iret C h hr hlocks (by refine ⟨rfl, ?_⟩; simp [uTen, c_1]) dX7_ten_12
  · skip
    refine lv_bipush (v := 10) hx hb dX7_ten_6 (by decide) ?_
    refine lv_goto (tgt := 12) hx hb dX7_ten_8 (by decide) ?_
    exact ur_iret C h hr hlocks (by refine ⟨rfl, ?_⟩; simp [uTen, c_1]) dX7_ten_12
set_option maxHeartbeats 4000000 in
set_option maxRecDepth 100000 in
theorem k_X7_isSpeaker (l : Launch) (E : uE) (hI : uI E) (M : uM) (x0 : Int32) (n : Nat) (hn : M.1 252 0 = nI n) (hn6 : n ≤ 6) : Met l yX7_isSpeaker wsX7_isSpeaker ({ frames := 1, cells := 0, slots := 0, locals := 25 }) (va_Pc [.ref (E.2.1 251), .int x0] (uB E M)) (va_Qi (fun r u => M = u ∧ r = if 0 ≤ x0.toInt ∧ x0.toInt < n then 1 else 0) (uP E) (uA E)) 0 0 (uA E) := by
  have hin7 : ∀ w ∈ wsX70, w ∈ wsX7_isSpeaker := by decide +kernel
  refine u_start (cc := cX7_isSpeaker) (maxL := 2) (ret := (some .boolean)) hI (by decide) rfl (Nat.le_of_ble_eq_true rfl) ?_
  intro p_ e_ s_ m_ bl_ me_ c_ C hr hlocks h ls hl
  have hx := C.1.1
  have hb := C.1.2.1
  have hown : s_.vm.findClass RX7 = some m_.cls := C.1.2.2.2.1
  have hts := C.1.2.2.2.2
  have hl : lv_has ls 2 [(0, .ref (E.2.1 251)), (1, .int x0)] := hl
  refine lv_iload_n hx hb dX7_isSpeaker_0 rfl (lv_at hl 1 rfl) ?_
  refine lv_i2l (v := x0.toInt64) hx hb dX7_isSpeaker_1 rfl ?_
  refine lv_lconst (v := 0) hx hb dX7_isSpeaker_2 (by decide) ?_
  refine lv_aload_n hx hb dX7_isSpeaker_3 rfl (lv_at hl 0 rfl) ?_
  refine ur_get C h 251 (by decide) (uc_251 E _) (Cn := RX7) (T := TX7) (N := 17) rfl hin7 0 (by decide) (by decide +kernel) rfl dX7_isSpeaker_4 ?_
  refine lv_iconst (v := 0) hx hb dX7_isSpeaker_7 (by decide) ?_
  refine ur_iald C h 252 (by decide) (uc_252 E _) (0) (by decide) (by decide) dX7_isSpeaker_8 ?_
  refine lv_iconst (v := 1) hx hb dX7_isSpeaker_9 (by decide) ?_
  refine lv_isub hx hb dX7_isSpeaker_10 ?_
  refine lv_i2l (v := ((M.1 252 0) - 1).toInt64) hx hb dX7_isSpeaker_11 rfl ?_
  refine ur_callSi C h (As := [.long x0.toInt64, .long 0, .long (((M.1 252 0) - 1).toInt64)]) (rest := []) (k_X7_in l E hI M x0.toInt64 0 (((M.1 252 0) - 1).toInt64)) (va_cwS 3 hts gX7_isSpeaker_X7_in rfl rfl rfl (by decide +kernel) ⟨Nat.le_of_ble_eq_true rfl, Nat.le_of_ble_eq_true rfl⟩) rfl hl.1 rfl (Nat.le_of_ble_eq_true rfl) dX7_isSpeaker_12 (fun r_1 M_2 H locs hw_2 h => ?_)
  obtain ⟨hu, er_1⟩ := hw_2
  subst hu
  have er_1 : r_1 = if 0 ≤ x0.toInt ∧ x0.toInt ≤ ((M.1 252 0) - 1).toInt then 1 else 0 := u_in (x := x0.toInt) (u_w _) rfl (u_w _) er_1
  exact ur_zret C h hr (by rw [er_1]; exact uz_nar) hlocks (⟨rfl, by rw [er_1]; refine u_ifc ?_; rw [hn, u_pred hn6]; omega⟩) dX7_isSpeaker_15
set_option maxHeartbeats 4000000 in
set_option maxRecDepth 100000 in
theorem k_X7_isWord (l : Launch) (E : uE) (hI : uI E) (M : uM) (x0 : Int32) (n : Nat) (hn : M.1 252 1 = nI n) (hn6 : n ≤ 6) : Met l yX7_isWord wsX7_isWord ({ frames := 1, cells := 0, slots := 0, locals := 25 }) (va_Pc [.ref (E.2.1 251), .int x0] (uB E M)) (va_Qi (fun r u => M = u ∧ r = if 0 ≤ x0.toInt ∧ x0.toInt < n then 1 else 0) (uP E) (uA E)) 0 0 (uA E) := by
  have hin7 : ∀ w ∈ wsX70, w ∈ wsX7_isWord := by decide +kernel
  refine u_start (cc := cX7_isWord) (maxL := 2) (ret := (some .boolean)) hI (by decide) rfl (Nat.le_of_ble_eq_true rfl) ?_
  intro p_ e_ s_ m_ bl_ me_ c_ C hr hlocks h ls hl
  have hx := C.1.1
  have hb := C.1.2.1
  have hown : s_.vm.findClass RX7 = some m_.cls := C.1.2.2.2.1
  have hts := C.1.2.2.2.2
  have hl : lv_has ls 2 [(0, .ref (E.2.1 251)), (1, .int x0)] := hl
  refine lv_iload_n hx hb dX7_isWord_0 rfl (lv_at hl 1 rfl) ?_
  refine lv_i2l (v := x0.toInt64) hx hb dX7_isWord_1 rfl ?_
  refine lv_lconst (v := 0) hx hb dX7_isWord_2 (by decide) ?_
  refine lv_aload_n hx hb dX7_isWord_3 rfl (lv_at hl 0 rfl) ?_
  refine ur_get C h 251 (by decide) (uc_251 E _) (Cn := RX7) (T := TX7) (N := 17) rfl hin7 0 (by decide) (by decide +kernel) rfl dX7_isWord_4 ?_
  refine lv_iconst (v := 1) hx hb dX7_isWord_7 (by decide) ?_
  refine ur_iald C h 252 (by decide) (uc_252 E _) (1) (by decide) (by decide) dX7_isWord_8 ?_
  refine lv_iconst (v := 1) hx hb dX7_isWord_9 (by decide) ?_
  refine lv_isub hx hb dX7_isWord_10 ?_
  refine lv_i2l (v := ((M.1 252 1) - 1).toInt64) hx hb dX7_isWord_11 rfl ?_
  refine ur_callSi C h (As := [.long x0.toInt64, .long 0, .long (((M.1 252 1) - 1).toInt64)]) (rest := []) (k_X7_in l E hI M x0.toInt64 0 (((M.1 252 1) - 1).toInt64)) (va_cwS 3 hts gX7_isWord_X7_in rfl rfl rfl (by decide +kernel) ⟨Nat.le_of_ble_eq_true rfl, Nat.le_of_ble_eq_true rfl⟩) rfl hl.1 rfl (Nat.le_of_ble_eq_true rfl) dX7_isWord_12 (fun r_1 M_2 H locs hw_2 h => ?_)
  obtain ⟨hu, er_1⟩ := hw_2
  subst hu
  have er_1 : r_1 = if 0 ≤ x0.toInt ∧ x0.toInt ≤ ((M.1 252 1) - 1).toInt then 1 else 0 := u_in (x := x0.toInt) (u_w _) rfl (u_w _) er_1
  exact ur_zret C h hr (by rw [er_1]; exact uz_nar) hlocks (⟨rfl, by rw [er_1]; refine u_ifc ?_; rw [hn, u_pred hn6]; omega⟩) dX7_isWord_15
set_option maxHeartbeats 4000000 in
set_option maxRecDepth 100000 in
theorem k_X7_skillOf (l : Launch) (E : uE) (hI : uI E) (M : uM) (p so : Nat) (wn tg : Int32) (hp : p < 6) (hs : so < 6) : Met l yX7_skillOf wsX7_skillOf ({ frames := 1, cells := 0, slots := 0, locals := 22 }) (va_Pc [.ref (E.2.1 251), .int (nI p), .int (nI so), .int wn, .int tg] (uB E M)) (va_Qi (fun r u => M = u ∧ r = mSk M p wn tg so) (uP E) (uA E)) 0 0 (uA E) := by
  refine u_start (cc := cX7_skillOf) (maxL := 7) (ret := (some .int)) hI (by decide) rfl (Nat.le_of_ble_eq_true rfl) ?_
  intro p_ e_ s_ m_ bl_ me_ c_ C hr hlocks h ls hl
  have hx := C.1.1
  have hb := C.1.2.1
  have hown : s_.vm.findClass RX7 = some m_.cls := C.1.2.2.2.1
  have hts := C.1.2.2.2.2
  have hl : lv_has ls 7 [(0, .ref (E.2.1 251)), (1, .int (nI p)), (2, .int (nI so)), (3, .int wn), (4, .int tg)] := hl
  refine lv_aload_n hx hb dX7_skillOf_0 rfl (lv_at hl 0 rfl) ?_
  refine lv_iload_n hx hb dX7_skillOf_1 rfl (lv_at hl 1 rfl) ?_
  refine lv_iconst (v := 4) hx hb dX7_skillOf_2 (by decide) ?_
  refine lv_iload_n hx hb dX7_skillOf_3 rfl (lv_at hl 2 rfl) ?_
  refine lv_iadd hx hb dX7_skillOf_4 ?_
  refine ur_eq (y := nI (4 + so)) (nI_add 4 so) ?_
  refine ur_callVi C h (k := 251) (As := [.int (nI p), .int (nI (4 + so))]) (rest := []) (k_X7_told l E hI M p (4 + so) (by omega)) (cwV 2 hts gX7_skillOf_X7_told rfl rfl rfl (by decide +kernel) ⟨Nat.le_of_ble_eq_true rfl, Nat.le_of_ble_eq_true rfl⟩) (by decide) (uc_251 E _) (T := TX7) (N := 17) rfl rfl hl.1 rfl (Nat.le_of_ble_eq_true rfl) dX7_skillOf_5 (fun r_1 M_2 H locs hw_2 h => ?_)
  obtain ⟨hu, er_1⟩ := hw_2
  subst hu
  refine ur_eq (y := M.1 252 (7 + 10 * p + (4 + so))) er_1 ?_
  refine lv_topi (fun v_3 ev_3 => ?_)
  refine lv_istore (lv' := [(5, .int v_3), (0, .ref (E.2.1 251)), (1, .int (nI p)), (2, .int (nI so)), (3, .int wn), (4, .int tg)]) hx hb dX7_skillOf_8 hl (by decide) rfl (fun ls hl => ?_)
  refine lv_iload hx hb dX7_skillOf_10 (lv_at hl 0 rfl) ?_
  refine lv_iload hx hb dX7_skillOf_12 (lv_at hl 5 rfl) ?_
  refine lv_iload_n hx hb dX7_skillOf_14 rfl (lv_at hl 3 rfl) ?_
  refine lv_ishr hx hb dX7_skillOf_15 ?_
  refine lv_iconst (v := 1) hx hb dX7_skillOf_16 (by decide) ?_
  refine lv_iand hx hb dX7_skillOf_17 ?_
  refine lv_iconst (v := 1) hx hb dX7_skillOf_18 (by decide) ?_
  refine lv_icmp_ne (tgt := 26) hx hb dX7_skillOf_19 (by decide) (fun c_4 => ?_) (fun c_4 => ?_)
  · skip
    refine lv_iconst (v := 0) hx hb dX7_skillOf_26 (by decide) ?_
    refine lv_iadd hx hb dX7_skillOf_27 ?_
    refine ur_eq (y := v_3) (Int32.add_zero _) ?_
    refine lv_istore (lv' := [(6, .int v_3), (5, .int v_3), (0, .ref (E.2.1 251)), (1, .int (nI p)), (2, .int (nI so)), (3, .int wn), (4, .int tg)]) hx hb dX7_skillOf_28 hl (by decide) rfl (fun ls hl => ?_)
    refine lv_aload_n hx hb dX7_skillOf_30 rfl (lv_at hl 2 rfl) ?_
    refine lv_iload_n hx hb dX7_skillOf_31 rfl (lv_at hl 3 rfl) ?_
    refine lv_iconst (v := 0) hx hb dX7_skillOf_32 (by decide) ?_
    refine ur_callVi C h (k := 251) (As := [.int (nI p), .int 0]) (rest := []) (k_X7_told l E hI M p 0 (by omega)) (cwV 2 hts gX7_skillOf_X7_told rfl rfl rfl (by decide +kernel) ⟨Nat.le_of_ble_eq_true rfl, Nat.le_of_ble_eq_true rfl⟩) (by decide) (uc_251 E _) (T := TX7) (N := 17) rfl rfl hl.1 rfl (Nat.le_of_ble_eq_true rfl) dX7_skillOf_33 (fun r_5 M_6 H locs hw_6 h => ?_)
    obtain ⟨hu, er_5⟩ := hw_6
    subst hu
    refine ur_eq (y := M.1 252 (7 + 10 * p)) er_5 ?_
    rcases Decidable.em (M.1 252 (7 + 10 * p) = 0) with c_7 | c_7
    · skip
      refine lv_tableIn (off := 32) (tgt := 68) hx hb dX7_skillOf_36 (by rw [c_7]; decide) (by rw [c_7]; decide) (by rw [c_7]; rfl) (by decide) ?_
      refine lv_iload hx hb dX7_skillOf_68 (lv_at hl 1 rfl) ?_
      refine lv_iload_n hx hb dX7_skillOf_70 rfl (lv_at hl 5 rfl) ?_
      refine lv_iconst (v := 3) hx hb dX7_skillOf_71 (by decide) ?_
      refine lv_idiv hx hb dX7_skillOf_72 (by decide) ?_
      refine lv_iadd hx hb dX7_skillOf_73 ?_
      refine ur_callSi C h (As := [.int (v_3 + (wn / 3))]) (rest := []) (k_X7_ten l E hI M (v_3 + (wn / 3))) (va_cwS 1 hts gX7_skillOf_X7_ten rfl rfl rfl (by decide +kernel) ⟨Nat.le_of_ble_eq_true rfl, Nat.le_of_ble_eq_true rfl⟩) rfl hl.1 rfl (Nat.le_of_ble_eq_true rfl) dX7_skillOf_74 (fun r_8 M_9 H locs hw_9 h => ?_)
      obtain ⟨hu, er_8⟩ := hw_9
      subst hu
      refine ur_eq (y := uTen (v_3 + (wn / 3))) er_8 ?_
      exact ur_iret C h hr hlocks (by subst ev_3; refine ⟨rfl, ?_⟩; simp [mSk, uSkill, uApt, ubit, c_4, c_7]) dX7_skillOf_77
    rcases Decidable.em (M.1 252 (7 + 10 * p) = 1) with c_10 | c_10
    · skip
      refine lv_tableIn (off := 42) (tgt := 78) hx hb dX7_skillOf_36 (by rw [c_10]; decide) (by rw [c_10]; decide) (by rw [c_10]; rfl) (by decide) ?_
      refine lv_iload hx hb dX7_skillOf_78 (lv_at hl 1 rfl) ?_
      refine lv_iconst (v := 2) hx hb dX7_skillOf_80 (by decide) ?_
      refine lv_icmp_ge (tgt := 88) hx hb dX7_skillOf_81 (by decide) (fun c_11 => ?_) (fun c_11 => ?_)
      · skip
        refine lv_iload hx hb dX7_skillOf_88 (lv_at hl 1 rfl) ?_
        refine lv_iconst (v := 2) hx hb dX7_skillOf_90 (by decide) ?_
        refine lv_isub hx hb dX7_skillOf_91 ?_
        refine lv_iload_n hx hb dX7_skillOf_92 rfl (lv_at hl 5 rfl) ?_
        refine lv_iconst (v := 3) hx hb dX7_skillOf_93 (by decide) ?_
        refine lv_idiv hx hb dX7_skillOf_94 (by decide) ?_
        refine lv_iadd hx hb dX7_skillOf_95 ?_
        refine ur_callSi C h (As := [.int ((v_3 - 2) + (wn / 3))]) (rest := []) (k_X7_ten l E hI M ((v_3 - 2) + (wn / 3))) (va_cwS 1 hts gX7_skillOf_X7_ten rfl rfl rfl (by decide +kernel) ⟨Nat.le_of_ble_eq_true rfl, Nat.le_of_ble_eq_true rfl⟩) rfl hl.1 rfl (Nat.le_of_ble_eq_true rfl) dX7_skillOf_96 (fun r_12 M_13 H locs hw_13 h => ?_)
        obtain ⟨hu, er_12⟩ := hw_13
        subst hu
        refine ur_eq (y := uTen ((v_3 - 2) + (wn / 3))) er_12 ?_
        exact ur_iret C h hr hlocks (by subst ev_3; refine ⟨rfl, ?_⟩; simp [mSk, uSkill, uApt, ubit, c_4, c_7, c_10, c_11]) dX7_skillOf_99
      · skip
        refine lv_iconst (v := 0) hx hb dX7_skillOf_84 (by decide) ?_
        refine lv_goto (tgt := 92) hx hb dX7_skillOf_85 (by decide) ?_
        refine lv_iload_n hx hb dX7_skillOf_92 rfl (lv_at hl 5 rfl) ?_
        refine lv_iconst (v := 3) hx hb dX7_skillOf_93 (by decide) ?_
        refine lv_idiv hx hb dX7_skillOf_94 (by decide) ?_
        refine lv_iadd hx hb dX7_skillOf_95 ?_
        refine ur_callSi C h (As := [.int (0 + (wn / 3))]) (rest := []) (k_X7_ten l E hI M (0 + (wn / 3))) (va_cwS 1 hts gX7_skillOf_X7_ten rfl rfl rfl (by decide +kernel) ⟨Nat.le_of_ble_eq_true rfl, Nat.le_of_ble_eq_true rfl⟩) rfl hl.1 rfl (Nat.le_of_ble_eq_true rfl) dX7_skillOf_96 (fun r_14 M_15 H locs hw_15 h => ?_)
        obtain ⟨hu, er_14⟩ := hw_15
        subst hu
        refine ur_eq (y := uTen (0 + (wn / 3))) er_14 ?_
        exact ur_iret C h hr hlocks (by subst ev_3; refine ⟨rfl, ?_⟩; simp [mSk, uSkill, uApt, ubit, c_4, c_7, c_10, c_11]) dX7_skillOf_99
    rcases Decidable.em (M.1 252 (7 + 10 * p) = 2) with c_16 | c_16
    · skip
      refine lv_tableIn (off := 64) (tgt := 100) hx hb dX7_skillOf_36 (by rw [c_16]; decide) (by rw [c_16]; decide) (by rw [c_16]; rfl) (by decide) ?_
      refine lv_iload hx hb dX7_skillOf_100 (lv_at hl 0 rfl) ?_
      refine lv_iload_n hx hb dX7_skillOf_102 rfl (lv_at hl 5 rfl) ?_
      refine lv_iconst (v := 3) hx hb dX7_skillOf_103 (by decide) ?_
      refine lv_idiv hx hb dX7_skillOf_104 (by decide) ?_
      refine lv_iadd hx hb dX7_skillOf_105 ?_
      refine ur_callSi C h (As := [.int (v_3 + (wn / 3))]) (rest := []) (k_X7_ten l E hI M (v_3 + (wn / 3))) (va_cwS 1 hts gX7_skillOf_X7_ten rfl rfl rfl (by decide +kernel) ⟨Nat.le_of_ble_eq_true rfl, Nat.le_of_ble_eq_true rfl⟩) rfl hl.1 rfl (Nat.le_of_ble_eq_true rfl) dX7_skillOf_106 (fun r_17 M_18 H locs hw_18 h => ?_)
      obtain ⟨hu, er_17⟩ := hw_18
      subst hu
      refine ur_eq (y := uTen (v_3 + (wn / 3))) er_17 ?_
      exact ur_iret C h hr hlocks (by subst ev_3; refine ⟨rfl, ?_⟩; simp [mSk, uSkill, uApt, ubit, c_4, c_7, c_10, c_16]) dX7_skillOf_109
    rcases Decidable.em (M.1 252 (7 + 10 * p) = 3) with c_19 | c_19
    · skip
      refine lv_tableIn (off := 74) (tgt := 110) hx hb dX7_skillOf_36 (by rw [c_19]; decide) (by rw [c_19]; decide) (by rw [c_19]; rfl) (by decide) ?_
      refine lv_iconst (v := 0) hx hb dX7_skillOf_110 (by decide) ?_
      exact ur_iret C h hr hlocks (by subst ev_3; refine ⟨rfl, ?_⟩; simp [mSk, uSkill, uApt, ubit, c_4, c_7, c_10, c_16, c_19]) dX7_skillOf_111
    have hsw_20 : (M.1 252 (7 + 10 * p)).toInt < 0 ∨ 3 < (M.1 252 (7 + 10 * p)).toInt := uo_sw 0 3 (fun k hk1 hk2 => by
        have hk : k = 0 ∨ k = 1 ∨ k = 2 ∨ k = 3 := by omega
        rcases hk with rfl | rfl | rfl | rfl
        · exact lv_neT c_7 (by decide)
        · exact lv_neT c_10 (by decide)
        · exact lv_neT c_16 (by decide)
        · exact lv_neT c_19 (by decide))
    refine lv_tableOut (tgt := 112) hx hb dX7_skillOf_36 hsw_20 (by decide) ?_
    refine lv_iload hx hb dX7_skillOf_112 (lv_at hl 0 rfl) ?_
    refine lv_iconst (v := 5) hx hb dX7_skillOf_114 (by decide) ?_
    refine lv_icmp_ge (tgt := 122) hx hb dX7_skillOf_115 (by decide) (fun c_21 => ?_) (fun c_21 => ?_)
    · skip
      refine lv_iload hx hb dX7_skillOf_122 (lv_at hl 0 rfl) ?_
      refine lv_iload_n hx hb dX7_skillOf_124 rfl (lv_at hl 5 rfl) ?_
      refine lv_iconst (v := 3) hx hb dX7_skillOf_125 (by decide) ?_
      refine lv_idiv hx hb dX7_skillOf_126 (by decide) ?_
      refine lv_iadd hx hb dX7_skillOf_127 ?_
      refine ur_callSi C h (As := [.int (v_3 + (wn / 3))]) (rest := []) (k_X7_ten l E hI M (v_3 + (wn / 3))) (va_cwS 1 hts gX7_skillOf_X7_ten rfl rfl rfl (by decide +kernel) ⟨Nat.le_of_ble_eq_true rfl, Nat.le_of_ble_eq_true rfl⟩) rfl hl.1 rfl (Nat.le_of_ble_eq_true rfl) dX7_skillOf_128 (fun r_22 M_23 H locs hw_23 h => ?_)
      obtain ⟨hu, er_22⟩ := hw_23
      subst hu
      refine ur_eq (y := uTen (v_3 + (wn / 3))) er_22 ?_
      exact ur_iret C h hr hlocks (by subst ev_3; refine ⟨rfl, ?_⟩; simp [mSk, uSkill, uApt, ubit, c_4, c_7, c_10, c_16, c_19, c_21]) dX7_skillOf_131
    · skip
      refine lv_iconst (v := 5) hx hb dX7_skillOf_118 (by decide) ?_
      refine lv_goto (tgt := 124) hx hb dX7_skillOf_119 (by decide) ?_
      refine lv_iload_n hx hb dX7_skillOf_124 rfl (lv_at hl 5 rfl) ?_
      refine lv_iconst (v := 3) hx hb dX7_skillOf_125 (by decide) ?_
      refine lv_idiv hx hb dX7_skillOf_126 (by decide) ?_
      refine lv_iadd hx hb dX7_skillOf_127 ?_
      refine ur_callSi C h (As := [.int (5 + (wn / 3))]) (rest := []) (k_X7_ten l E hI M (5 + (wn / 3))) (va_cwS 1 hts gX7_skillOf_X7_ten rfl rfl rfl (by decide +kernel) ⟨Nat.le_of_ble_eq_true rfl, Nat.le_of_ble_eq_true rfl⟩) rfl hl.1 rfl (Nat.le_of_ble_eq_true rfl) dX7_skillOf_128 (fun r_24 M_25 H locs hw_25 h => ?_)
      obtain ⟨hu, er_24⟩ := hw_25
      subst hu
      refine ur_eq (y := uTen (5 + (wn / 3))) er_24 ?_
      exact ur_iret C h hr hlocks (by subst ev_3; refine ⟨rfl, ?_⟩; simp [mSk, uSkill, uApt, ubit, c_4, c_7, c_10, c_16, c_19, c_21]) dX7_skillOf_131
  · skip
    refine lv_iconst (v := 3) hx hb dX7_skillOf_22 (by decide) ?_
    refine lv_goto (tgt := 27) hx hb dX7_skillOf_23 (by decide) ?_
    refine lv_iadd hx hb dX7_skillOf_27 ?_
    refine lv_istore (lv' := [(6, .int (v_3 + 3)), (5, .int v_3), (0, .ref (E.2.1 251)), (1, .int (nI p)), (2, .int (nI so)), (3, .int wn), (4, .int tg)]) hx hb dX7_skillOf_28 hl (by decide) rfl (fun ls hl => ?_)
    refine lv_aload_n hx hb dX7_skillOf_30 rfl (lv_at hl 2 rfl) ?_
    refine lv_iload_n hx hb dX7_skillOf_31 rfl (lv_at hl 3 rfl) ?_
    refine lv_iconst (v := 0) hx hb dX7_skillOf_32 (by decide) ?_
    refine ur_callVi C h (k := 251) (As := [.int (nI p), .int 0]) (rest := []) (k_X7_told l E hI M p 0 (by omega)) (cwV 2 hts gX7_skillOf_X7_told rfl rfl rfl (by decide +kernel) ⟨Nat.le_of_ble_eq_true rfl, Nat.le_of_ble_eq_true rfl⟩) (by decide) (uc_251 E _) (T := TX7) (N := 17) rfl rfl hl.1 rfl (Nat.le_of_ble_eq_true rfl) dX7_skillOf_33 (fun r_26 M_27 H locs hw_27 h => ?_)
    obtain ⟨hu, er_26⟩ := hw_27
    subst hu
    refine ur_eq (y := M.1 252 (7 + 10 * p)) er_26 ?_
    rcases Decidable.em (M.1 252 (7 + 10 * p) = 0) with c_28 | c_28
    · skip
      refine lv_tableIn (off := 32) (tgt := 68) hx hb dX7_skillOf_36 (by rw [c_28]; decide) (by rw [c_28]; decide) (by rw [c_28]; rfl) (by decide) ?_
      refine lv_iload hx hb dX7_skillOf_68 (lv_at hl 1 rfl) ?_
      refine lv_iload_n hx hb dX7_skillOf_70 rfl (lv_at hl 5 rfl) ?_
      refine lv_iconst (v := 3) hx hb dX7_skillOf_71 (by decide) ?_
      refine lv_idiv hx hb dX7_skillOf_72 (by decide) ?_
      refine lv_iadd hx hb dX7_skillOf_73 ?_
      refine ur_callSi C h (As := [.int (v_3 + (wn / 3))]) (rest := []) (k_X7_ten l E hI M (v_3 + (wn / 3))) (va_cwS 1 hts gX7_skillOf_X7_ten rfl rfl rfl (by decide +kernel) ⟨Nat.le_of_ble_eq_true rfl, Nat.le_of_ble_eq_true rfl⟩) rfl hl.1 rfl (Nat.le_of_ble_eq_true rfl) dX7_skillOf_74 (fun r_29 M_30 H locs hw_30 h => ?_)
      obtain ⟨hu, er_29⟩ := hw_30
      subst hu
      refine ur_eq (y := uTen (v_3 + (wn / 3))) er_29 ?_
      exact ur_iret C h hr hlocks (by subst ev_3; refine ⟨rfl, ?_⟩; simp [mSk, uSkill, uApt, ubit, c_4, c_28]) dX7_skillOf_77
    rcases Decidable.em (M.1 252 (7 + 10 * p) = 1) with c_31 | c_31
    · skip
      refine lv_tableIn (off := 42) (tgt := 78) hx hb dX7_skillOf_36 (by rw [c_31]; decide) (by rw [c_31]; decide) (by rw [c_31]; rfl) (by decide) ?_
      refine lv_iload hx hb dX7_skillOf_78 (lv_at hl 1 rfl) ?_
      refine lv_iconst (v := 2) hx hb dX7_skillOf_80 (by decide) ?_
      refine lv_icmp_ge (tgt := 88) hx hb dX7_skillOf_81 (by decide) (fun c_32 => ?_) (fun c_32 => ?_)
      · skip
        refine lv_iload hx hb dX7_skillOf_88 (lv_at hl 1 rfl) ?_
        refine lv_iconst (v := 2) hx hb dX7_skillOf_90 (by decide) ?_
        refine lv_isub hx hb dX7_skillOf_91 ?_
        refine lv_iload_n hx hb dX7_skillOf_92 rfl (lv_at hl 5 rfl) ?_
        refine lv_iconst (v := 3) hx hb dX7_skillOf_93 (by decide) ?_
        refine lv_idiv hx hb dX7_skillOf_94 (by decide) ?_
        refine lv_iadd hx hb dX7_skillOf_95 ?_
        refine ur_callSi C h (As := [.int ((v_3 - 2) + (wn / 3))]) (rest := []) (k_X7_ten l E hI M ((v_3 - 2) + (wn / 3))) (va_cwS 1 hts gX7_skillOf_X7_ten rfl rfl rfl (by decide +kernel) ⟨Nat.le_of_ble_eq_true rfl, Nat.le_of_ble_eq_true rfl⟩) rfl hl.1 rfl (Nat.le_of_ble_eq_true rfl) dX7_skillOf_96 (fun r_33 M_34 H locs hw_34 h => ?_)
        obtain ⟨hu, er_33⟩ := hw_34
        subst hu
        refine ur_eq (y := uTen ((v_3 - 2) + (wn / 3))) er_33 ?_
        exact ur_iret C h hr hlocks (by subst ev_3; refine ⟨rfl, ?_⟩; simp [mSk, uSkill, uApt, ubit, c_4, c_28, c_31, c_32]) dX7_skillOf_99
      · skip
        refine lv_iconst (v := 0) hx hb dX7_skillOf_84 (by decide) ?_
        refine lv_goto (tgt := 92) hx hb dX7_skillOf_85 (by decide) ?_
        refine lv_iload_n hx hb dX7_skillOf_92 rfl (lv_at hl 5 rfl) ?_
        refine lv_iconst (v := 3) hx hb dX7_skillOf_93 (by decide) ?_
        refine lv_idiv hx hb dX7_skillOf_94 (by decide) ?_
        refine lv_iadd hx hb dX7_skillOf_95 ?_
        refine ur_callSi C h (As := [.int (0 + (wn / 3))]) (rest := []) (k_X7_ten l E hI M (0 + (wn / 3))) (va_cwS 1 hts gX7_skillOf_X7_ten rfl rfl rfl (by decide +kernel) ⟨Nat.le_of_ble_eq_true rfl, Nat.le_of_ble_eq_true rfl⟩) rfl hl.1 rfl (Nat.le_of_ble_eq_true rfl) dX7_skillOf_96 (fun r_35 M_36 H locs hw_36 h => ?_)
        obtain ⟨hu, er_35⟩ := hw_36
        subst hu
        refine ur_eq (y := uTen (0 + (wn / 3))) er_35 ?_
        exact ur_iret C h hr hlocks (by subst ev_3; refine ⟨rfl, ?_⟩; simp [mSk, uSkill, uApt, ubit, c_4, c_28, c_31, c_32]) dX7_skillOf_99
    rcases Decidable.em (M.1 252 (7 + 10 * p) = 2) with c_37 | c_37
    · skip
      refine lv_tableIn (off := 64) (tgt := 100) hx hb dX7_skillOf_36 (by rw [c_37]; decide) (by rw [c_37]; decide) (by rw [c_37]; rfl) (by decide) ?_
      refine lv_iload hx hb dX7_skillOf_100 (lv_at hl 0 rfl) ?_
      refine lv_iload_n hx hb dX7_skillOf_102 rfl (lv_at hl 5 rfl) ?_
      refine lv_iconst (v := 3) hx hb dX7_skillOf_103 (by decide) ?_
      refine lv_idiv hx hb dX7_skillOf_104 (by decide) ?_
      refine lv_iadd hx hb dX7_skillOf_105 ?_
      refine ur_callSi C h (As := [.int ((v_3 + 3) + (wn / 3))]) (rest := []) (k_X7_ten l E hI M ((v_3 + 3) + (wn / 3))) (va_cwS 1 hts gX7_skillOf_X7_ten rfl rfl rfl (by decide +kernel) ⟨Nat.le_of_ble_eq_true rfl, Nat.le_of_ble_eq_true rfl⟩) rfl hl.1 rfl (Nat.le_of_ble_eq_true rfl) dX7_skillOf_106 (fun r_38 M_39 H locs hw_39 h => ?_)
      obtain ⟨hu, er_38⟩ := hw_39
      subst hu
      refine ur_eq (y := uTen ((v_3 + 3) + (wn / 3))) er_38 ?_
      exact ur_iret C h hr hlocks (by subst ev_3; refine ⟨rfl, ?_⟩; simp [mSk, uSkill, uApt, ubit, c_4, c_28, c_31, c_37]) dX7_skillOf_109
    rcases Decidable.em (M.1 252 (7 + 10 * p) = 3) with c_40 | c_40
    · skip
      refine lv_tableIn (off := 74) (tgt := 110) hx hb dX7_skillOf_36 (by rw [c_40]; decide) (by rw [c_40]; decide) (by rw [c_40]; rfl) (by decide) ?_
      refine lv_iconst (v := 0) hx hb dX7_skillOf_110 (by decide) ?_
      exact ur_iret C h hr hlocks (by subst ev_3; refine ⟨rfl, ?_⟩; simp [mSk, uSkill, uApt, ubit, c_4, c_28, c_31, c_37, c_40]) dX7_skillOf_111
    have hsw_41 : (M.1 252 (7 + 10 * p)).toInt < 0 ∨ 3 < (M.1 252 (7 + 10 * p)).toInt := uo_sw 0 3 (fun k hk1 hk2 => by
        have hk : k = 0 ∨ k = 1 ∨ k = 2 ∨ k = 3 := by omega
        rcases hk with rfl | rfl | rfl | rfl
        · exact lv_neT c_28 (by decide)
        · exact lv_neT c_31 (by decide)
        · exact lv_neT c_37 (by decide)
        · exact lv_neT c_40 (by decide))
    refine lv_tableOut (tgt := 112) hx hb dX7_skillOf_36 hsw_41 (by decide) ?_
    refine lv_iload hx hb dX7_skillOf_112 (lv_at hl 0 rfl) ?_
    refine lv_iconst (v := 5) hx hb dX7_skillOf_114 (by decide) ?_
    refine lv_icmp_ge (tgt := 122) hx hb dX7_skillOf_115 (by decide) (fun c_42 => ?_) (fun c_42 => ?_)
    · skip
      refine lv_iload hx hb dX7_skillOf_122 (lv_at hl 0 rfl) ?_
      refine lv_iload_n hx hb dX7_skillOf_124 rfl (lv_at hl 5 rfl) ?_
      refine lv_iconst (v := 3) hx hb dX7_skillOf_125 (by decide) ?_
      refine lv_idiv hx hb dX7_skillOf_126 (by decide) ?_
      refine lv_iadd hx hb dX7_skillOf_127 ?_
      refine ur_callSi C h (As := [.int ((v_3 + 3) + (wn / 3))]) (rest := []) (k_X7_ten l E hI M ((v_3 + 3) + (wn / 3))) (va_cwS 1 hts gX7_skillOf_X7_ten rfl rfl rfl (by decide +kernel) ⟨Nat.le_of_ble_eq_true rfl, Nat.le_of_ble_eq_true rfl⟩) rfl hl.1 rfl (Nat.le_of_ble_eq_true rfl) dX7_skillOf_128 (fun r_43 M_44 H locs hw_44 h => ?_)
      obtain ⟨hu, er_43⟩ := hw_44
      subst hu
      refine ur_eq (y := uTen ((v_3 + 3) + (wn / 3))) er_43 ?_
      exact ur_iret C h hr hlocks (by subst ev_3; refine ⟨rfl, ?_⟩; simp [mSk, uSkill, uApt, ubit, c_4, c_28, c_31, c_37, c_40, c_42]) dX7_skillOf_131
    · skip
      refine lv_iconst (v := 5) hx hb dX7_skillOf_118 (by decide) ?_
      refine lv_goto (tgt := 124) hx hb dX7_skillOf_119 (by decide) ?_
      refine lv_iload_n hx hb dX7_skillOf_124 rfl (lv_at hl 5 rfl) ?_
      refine lv_iconst (v := 3) hx hb dX7_skillOf_125 (by decide) ?_
      refine lv_idiv hx hb dX7_skillOf_126 (by decide) ?_
      refine lv_iadd hx hb dX7_skillOf_127 ?_
      refine ur_callSi C h (As := [.int (5 + (wn / 3))]) (rest := []) (k_X7_ten l E hI M (5 + (wn / 3))) (va_cwS 1 hts gX7_skillOf_X7_ten rfl rfl rfl (by decide +kernel) ⟨Nat.le_of_ble_eq_true rfl, Nat.le_of_ble_eq_true rfl⟩) rfl hl.1 rfl (Nat.le_of_ble_eq_true rfl) dX7_skillOf_128 (fun r_45 M_46 H locs hw_46 h => ?_)
      obtain ⟨hu, er_45⟩ := hw_46
      subst hu
      refine ur_eq (y := uTen (5 + (wn / 3))) er_45 ?_
      exact ur_iret C h hr hlocks (by subst ev_3; refine ⟨rfl, ?_⟩; simp [mSk, uSkill, uApt, ubit, c_4, c_28, c_31, c_37, c_40, c_42]) dX7_skillOf_131
set_option maxHeartbeats 4000000 in
set_option maxRecDepth 100000 in
theorem k_X7_hears (l : Launch) (E : uE) (hI : uI E) (M : uM) (hr0 : Int32) (ht : ¬ M.1 252 3 = 0) : Met l yX7_hears wsX7_hears ({ frames := 0, cells := 0, slots := 0, locals := 0 }) (va_Pc [.ref (E.2.1 251), .int hr0] (uB E M)) (va_Qi (fun r u => M = u ∧ r = uHears (M.1 252 2) (M.1 252 3) hr0) (uP E) (uA E)) 0 0 (uA E) := by
  have hin7 : ∀ w ∈ wsX70, w ∈ wsX7_hears := by decide +kernel
  refine u_start (cc := cX7_hears) (maxL := 3) (ret := (some .int)) hI (by decide) rfl (Nat.le_of_ble_eq_true rfl) ?_
  intro p_ e_ s_ m_ bl_ me_ c_ C hr hlocks h ls hl
  have hx := C.1.1
  have hb := C.1.2.1
  have hown : s_.vm.findClass RX7 = some m_.cls := C.1.2.2.2.1
  have hts := C.1.2.2.2.2
  have hl : lv_has ls 3 [(0, .ref (E.2.1 251)), (1, .int hr0)] := hl
  refine lv_aload_n hx hb dX7_hears_0 rfl (lv_at hl 0 rfl) ?_
  refine ur_get C h 251 (by decide) (uc_251 E _) (Cn := RX7) (T := TX7) (N := 17) rfl hin7 0 (by decide) (by decide +kernel) rfl dX7_hears_1 ?_
  refine lv_iconst (v := 2) hx hb dX7_hears_4 (by decide) ?_
  refine ur_iald C h 252 (by decide) (uc_252 E _) (2) (by decide) (by decide) dX7_hears_5 ?_
  refine lv_iload_n hx hb dX7_hears_6 rfl (lv_at hl 1 rfl) ?_
  refine lv_aload_n hx hb dX7_hears_7 rfl (lv_at hl 0 rfl) ?_
  refine ur_get C h 251 (by decide) (uc_251 E _) (Cn := RX7) (T := TX7) (N := 17) rfl hin7 0 (by decide) (by decide +kernel) rfl dX7_hears_8 ?_
  refine lv_iconst (v := 3) hx hb dX7_hears_11 (by decide) ?_
  refine ur_iald C h 252 (by decide) (uc_252 E _) (3) (by decide) (by decide) dX7_hears_12 ?_
  refine lv_idiv hx hb dX7_hears_13 (by exact ht) ?_
  refine lv_isub hx hb dX7_hears_14 ?_
  refine lv_topi (fun v_1 ev_1 => ?_)
  refine lv_istore_n (lv' := [(2, .int v_1), (0, .ref (E.2.1 251)), (1, .int hr0)]) hx hb dX7_hears_15 rfl hl (by decide) rfl (fun ls hl => ?_)
  refine lv_iload_n hx hb dX7_hears_16 rfl (lv_at hl 0 rfl) ?_
  refine lv_if_ge (tgt := 24) hx hb dX7_hears_17 (by decide) (fun c_2 => ?_) (fun c_2 => ?_)
  · skip
    refine lv_iload_n hx hb dX7_hears_24 rfl (lv_at hl 0 rfl) ?_
    exact ur_iret C h hr hlocks (by subst ev_1; refine ⟨rfl, ?_⟩; simp [uHears, c_2]) dX7_hears_25
  · skip
    refine lv_iconst (v := 0) hx hb dX7_hears_20 (by decide) ?_
    refine lv_goto (tgt := 25) hx hb dX7_hears_21 (by decide) ?_
    exact ur_iret C h hr hlocks (by subst ev_1; refine ⟨rfl, ?_⟩; simp [uHears, c_2]) dX7_hears_25
set_option maxHeartbeats 4000000 in
set_option maxRecDepth 100000 in
theorem k_X7_passBy (l : Launch) (E : uE) (hI : uI E) (M : uM) (p w : Nat) (hr0 wn tg : Int32) (hp : p < 6) (hw : w < 6) (ht : ¬ M.1 252 3 = 0) : Met l yX7_passBy wsX7_passBy ({ frames := 2, cells := 0, slots := 0, locals := 48 }) (va_Pc [.ref (E.2.1 251), .int (nI p), .int (nI w), .int hr0, .int wn, .int tg] (uB E M)) (va_Qi (fun r u => M = u ∧ r = mPass M p w hr0 wn tg) (uP E) (uA E)) 0 0 (uA E) := by
  refine u_start (cc := cX7_passBy) (maxL := 10) (ret := (some .int)) hI (by decide) rfl (Nat.le_of_ble_eq_true rfl) ?_
  intro p_ e_ s_ m_ bl_ me_ c_ C hr hlocks h ls hl
  have hx := C.1.1
  have hb := C.1.2.1
  have hown : s_.vm.findClass RX7 = some m_.cls := C.1.2.2.2.1
  have hts := C.1.2.2.2.2
  have hl : lv_has ls 10 [(0, .ref (E.2.1 251)), (1, .int (nI p)), (2, .int (nI w)), (3, .int hr0), (4, .int wn), (5, .int tg)] := hl
  refine lv_aload_n hx hb dX7_passBy_0 rfl (lv_at hl 0 rfl) ?_
  refine lv_iload_n hx hb dX7_passBy_1 rfl (lv_at hl 3 rfl) ?_
  refine ur_callVi C h (k := 251) (As := [.int hr0]) (rest := []) (k_X7_hears l E hI M hr0 ht) (cwV 1 hts gX7_passBy_X7_hears rfl rfl rfl (by decide +kernel) ⟨Nat.le_of_ble_eq_true rfl, Nat.le_of_ble_eq_true rfl⟩) (by decide) (uc_251 E _) (T := TX7) (N := 17) rfl rfl hl.1 rfl (Nat.le_of_ble_eq_true rfl) dX7_passBy_2 (fun r_1 M_2 H locs hw_2 h => ?_)
  obtain ⟨hu, er_1⟩ := hw_2
  subst hu
  refine ur_eq (y := uHears (M.1 252 2) (M.1 252 3) hr0) er_1 ?_
  refine lv_topi (fun v_3 ev_3 => ?_)
  refine lv_istore (lv' := [(6, .int v_3), (0, .ref (E.2.1 251)), (1, .int (nI p)), (2, .int (nI w)), (3, .int hr0), (4, .int wn), (5, .int tg)]) hx hb dX7_passBy_5 hl (by decide) rfl (fun ls hl => ?_)
  refine lv_ldc (v := 1000000) hx hb hown (hts (.constant RX7 59 1000000) (by decide +kernel)) dX7_passBy_7 ?_
  refine lv_istore (lv' := [(7, .int 1000000), (6, .int v_3), (0, .ref (E.2.1 251)), (1, .int (nI p)), (2, .int (nI w)), (3, .int hr0), (4, .int wn), (5, .int tg)]) hx hb dX7_passBy_9 hl (by decide) rfl (fun ls hl => ?_)
  refine lv_iconst (v := 0) hx hb dX7_passBy_11 (by decide) ?_
  refine lv_istore (lv' := [(8, .int 0), (7, .int 1000000), (6, .int v_3), (0, .ref (E.2.1 251)), (1, .int (nI p)), (2, .int (nI w)), (3, .int hr0), (4, .int wn), (5, .int tg)]) hx hb dX7_passBy_12 hl (by decide) rfl (fun ls hl => ?_)
  have lp14 : ∀ (n14 : Nat) (i : Nat) (v : Int32), 6 - i < n14 → i ≤ 6 → v = uPass (M.1 252 (67 + 2 * w)) (mSk M p wn tg) (uHears (M.1 252 2) (M.1 252 3) hr0) i → ∀ (H : Heap) (locs : List Loc) (ls : Array Slot), uH E M s_ H locs → lv_has ls 10 [(0, .ref (E.2.1 251)), (1, .int (nI p)), (2, .int (nI w)), (3, .int hr0), (4, .int wn), (5, .int tg), (6, .int v_3), (7, .int v), (8, .int (nI i))] → W p_ l e_ ({ frames := 2, cells := 0, slots := 0, locals := 48 }) s_ m_ (List.toArray [.ref (E.2.1 251), .int (nI p), .int (nI w), .int hr0, .int wn, .int tg]) bl_ me_ c_ H locs 0 0 (MQ bl_ (va_Qi (fun r u => M = u ∧ r = mPass M p w hr0 wn tg) (uP E) (uA E)) (List.toArray [.ref (E.2.1 251), .int (nI p), .int (nI w), .int hr0, .int wn, .int tg]) s_ 0 0 (uA E)) (F0 m_ 14 ls []) := by
    intro n14
    induction n14 with
    | zero => intro i v hms; exact absurd hms (Nat.not_lt_zero _)
    | succ n14 ih14 =>
      intro i v hms14 hi hv H locs ls h hl
      refine lv_iload hx hb dX7_passBy_14 (lv_at hl 8 rfl) ?_
      refine lv_bipush (v := 6) hx hb dX7_passBy_16 (by decide) ?_
      refine lv_icmp_ge (tgt := 79) hx hb dX7_passBy_18 (by decide) (fun c_4 => ?_) (fun c_4 => ?_)
      · skip
        have c_4 : 6 ≤ i := (nI_leI (a := 6) (b := i) (by omega) (by omega)).mp c_4
        refine lv_iload hx hb dX7_passBy_79 (lv_at hl 7 rfl) ?_
        exact ur_iret C h hr hlocks (⟨rfl, by subst ev_3; rw [hv, show i = 6 by omega]; rfl⟩) dX7_passBy_81
      · skip
        have c_4 : ¬ 6 ≤ i := fun z => c_4 ((nI_leI (a := 6) (b := i) (by omega) (by omega)).mpr z)
        refine lv_aload_n hx hb dX7_passBy_21 rfl (lv_at hl 0 rfl) ?_
        refine lv_iload_n hx hb dX7_passBy_22 rfl (lv_at hl 2 rfl) ?_
        refine ur_callVi C h (k := 251) (As := [.int (nI w)]) (rest := []) (k_X7_sounds l E hI M w (by omega)) (cwV 1 hts gX7_passBy_X7_sounds rfl rfl rfl (by decide +kernel) ⟨Nat.le_of_ble_eq_true rfl, Nat.le_of_ble_eq_true rfl⟩) (by decide) (uc_251 E _) (T := TX7) (N := 17) rfl rfl hl.1 rfl (Nat.le_of_ble_eq_true rfl) dX7_passBy_23 (fun r_5 M_6 H locs hw_6 h => ?_)
        obtain ⟨hu, er_5⟩ := hw_6
        subst hu
        refine ur_eq (y := M.1 252 (67 + 2 * w)) er_5 ?_
        refine lv_iload hx hb dX7_passBy_26 (lv_at hl 8 rfl) ?_
        refine lv_ishr hx hb dX7_passBy_28 ?_
        refine lv_iconst (v := 1) hx hb dX7_passBy_29 (by decide) ?_
        refine lv_iand hx hb dX7_passBy_30 ?_
        refine lv_iconst (v := 1) hx hb dX7_passBy_31 (by decide) ?_
        refine lv_icmp_ne (tgt := 73) hx hb dX7_passBy_32 (by decide) (fun c_7 => ?_) (fun c_7 => ?_)
        · skip
          refine lv_iinc (v := nI (i + 1)) (lv' := [(8, .int (nI (i + 1))), (0, .ref (E.2.1 251)), (1, .int (nI p)), (2, .int (nI w)), (3, .int hr0), (4, .int wn), (5, .int tg), (6, .int v_3), (7, .int v)]) hx hb dX7_passBy_73 hl (k := 8) rfl (nI_add i 1) (by decide) rfl (fun ls hl => ?_)
          refine lv_goto (tgt := 14) hx hb dX7_passBy_76 (by decide) ?_
          exact ih14  (i + 1) v (by omega) (by omega) (by first | rfl | (subst ev_3; simp [uPass, ubit, hv, c_4, c_7]; done)) _ _ _ h (lv_sub hl [1, 2, 3, 4, 5, 6, 7, 8, 0] rfl)
        · skip
          refine lv_aload_n hx hb dX7_passBy_35 rfl (lv_at hl 0 rfl) ?_
          refine lv_iload_n hx hb dX7_passBy_36 rfl (lv_at hl 1 rfl) ?_
          refine lv_iload hx hb dX7_passBy_37 (lv_at hl 8 rfl) ?_
          refine lv_iload hx hb dX7_passBy_39 (lv_at hl 4 rfl) ?_
          refine lv_iload hx hb dX7_passBy_41 (lv_at hl 5 rfl) ?_
          refine ur_callVi C h (k := 251) (As := [.int (nI p), .int (nI i), .int wn, .int tg]) (rest := []) (k_X7_skillOf l E hI M p i wn tg (by omega) (by omega)) (cwV 4 hts gX7_passBy_X7_skillOf rfl rfl rfl (by decide +kernel) ⟨Nat.le_of_ble_eq_true rfl, Nat.le_of_ble_eq_true rfl⟩) (by decide) (uc_251 E _) (T := TX7) (N := 17) rfl rfl hl.1 rfl (Nat.le_of_ble_eq_true rfl) dX7_passBy_43 (fun r_8 M_9 H locs hw_9 h => ?_)
          obtain ⟨hu, er_8⟩ := hw_9
          subst hu
          refine ur_eq (y := mSk M p wn tg i) er_8 ?_
          refine lv_istore (lv' := [(9, .int (mSk M p wn tg i)), (0, .ref (E.2.1 251)), (1, .int (nI p)), (2, .int (nI w)), (3, .int hr0), (4, .int wn), (5, .int tg), (6, .int v_3), (7, .int v), (8, .int (nI i))]) hx hb dX7_passBy_46 hl (by decide) rfl (fun ls hl => ?_)
          refine lv_iload hx hb dX7_passBy_48 (lv_at hl 8 rfl) ?_
          refine lv_iload hx hb dX7_passBy_50 (lv_at hl 0 rfl) ?_
          refine lv_iload hx hb dX7_passBy_52 (lv_at hl 7 rfl) ?_
          refine lv_imul hx hb dX7_passBy_54 ?_
          refine lv_bipush (v := 10) hx hb dX7_passBy_55 (by decide) ?_
          refine lv_iload hx hb dX7_passBy_57 (lv_at hl 0 rfl) ?_
          refine lv_isub hx hb dX7_passBy_59 ?_
          refine lv_bipush (v := 10) hx hb dX7_passBy_60 (by decide) ?_
          refine lv_iload hx hb dX7_passBy_62 (lv_at hl 7 rfl) ?_
          refine lv_isub hx hb dX7_passBy_64 ?_
          refine lv_imul hx hb dX7_passBy_65 ?_
          refine lv_iadd hx hb dX7_passBy_66 ?_
          refine lv_imul hx hb dX7_passBy_67 ?_
          refine lv_bipush (v := 100) hx hb dX7_passBy_68 (by decide) ?_
          refine lv_idiv hx hb dX7_passBy_70 (by decide) ?_
          refine lv_topi (fun v_10 ev_10 => ?_)
          refine lv_istore (lv' := [(7, .int v_10), (9, .int (mSk M p wn tg i)), (0, .ref (E.2.1 251)), (1, .int (nI p)), (2, .int (nI w)), (3, .int hr0), (4, .int wn), (5, .int tg), (6, .int v_3), (8, .int (nI i))]) hx hb dX7_passBy_71 hl (by decide) rfl (fun ls hl => ?_)
          refine lv_iinc (v := nI (i + 1)) (lv' := [(8, .int (nI (i + 1))), (7, .int v_10), (9, .int (mSk M p wn tg i)), (0, .ref (E.2.1 251)), (1, .int (nI p)), (2, .int (nI w)), (3, .int hr0), (4, .int wn), (5, .int tg), (6, .int v_3)]) hx hb dX7_passBy_73 hl (k := 9) rfl (nI_add i 1) (by decide) rfl (fun ls hl => ?_)
          refine lv_goto (tgt := 14) hx hb dX7_passBy_76 (by decide) ?_
          exact ih14  (i + 1) v_10 (by omega) (by omega) (by first | rfl | (subst ev_3; subst ev_10; simp [uPass, ubit, hv, c_4, c_7]; done)) _ _ _ h (lv_sub hl [3, 4, 5, 6, 7, 8, 9, 1, 0] rfl)
  exact lp14 _ 0 1000000 (Nat.lt_succ_self _) (by omega) (by first | rfl | (subst ev_3; simp [uPass, ubit, hv, ]; done)) _ _ _ h (lv_sub hl [3, 4, 5, 6, 7, 8, 2, 1, 0] rfl)
set_option maxHeartbeats 4000000 in
set_option maxRecDepth 100000 in
theorem k_X7_passIn (l : Launch) (E : uE) (hI : uI E) (M : uM) (p w : Nat) (hr0 : Int32) (hp : p < 6) (hw : w < 6) (ht : ¬ M.1 252 3 = 0) : Met l yX7_passIn wsX7_passIn ({ frames := 3, cells := 0, slots := 0, locals := 77 }) (va_Pc [.ref (E.2.1 251), .int (nI p), .int (nI w), .int hr0] (uB E M)) (va_Qi (fun r u => M = u ∧ r = mPassIn M p w hr0) (uP E) (uA E)) 0 0 (uA E) := by
  refine u_start (cc := cX7_passIn) (maxL := 4) (ret := (some .int)) hI (by decide) rfl (Nat.le_of_ble_eq_true rfl) ?_
  intro p_ e_ s_ m_ bl_ me_ c_ C hr hlocks h ls hl
  have hx := C.1.1
  have hb := C.1.2.1
  have hown : s_.vm.findClass RX7 = some m_.cls := C.1.2.2.2.1
  have hts := C.1.2.2.2.2
  have hl : lv_has ls 4 [(0, .ref (E.2.1 251)), (1, .int (nI p)), (2, .int (nI w)), (3, .int hr0)] := hl
  refine lv_aload_n hx hb dX7_passIn_0 rfl (lv_at hl 0 rfl) ?_
  refine lv_iload_n hx hb dX7_passIn_1 rfl (lv_at hl 1 rfl) ?_
  refine lv_iload_n hx hb dX7_passIn_2 rfl (lv_at hl 2 rfl) ?_
  refine lv_iload_n hx hb dX7_passIn_3 rfl (lv_at hl 3 rfl) ?_
  refine lv_aload_n hx hb dX7_passIn_4 rfl (lv_at hl 0 rfl) ?_
  refine lv_iload_n hx hb dX7_passIn_5 rfl (lv_at hl 2 rfl) ?_
  refine ur_callVi C h (k := 251) (As := [.int (nI w)]) (rest := [.int hr0, .int (nI w), .int (nI p), .ref (E.2.1 251)]) (k_X7_wornOf l E hI M w (by omega)) (cwV 1 hts gX7_passIn_X7_wornOf rfl rfl rfl (by decide +kernel) ⟨Nat.le_of_ble_eq_true rfl, Nat.le_of_ble_eq_true rfl⟩) (by decide) (uc_251 E _) (T := TX7) (N := 17) rfl rfl hl.1 rfl (Nat.le_of_ble_eq_true rfl) dX7_passIn_6 (fun r_1 M_2 H locs hw_2 h => ?_)
  obtain ⟨hu, er_1⟩ := hw_2
  subst hu
  refine ur_eq (y := M.1 252 (67 + 2 * w + 1)) er_1 ?_
  refine lv_aload_n hx hb dX7_passIn_9 rfl (lv_at hl 0 rfl) ?_
  refine lv_iload_n hx hb dX7_passIn_10 rfl (lv_at hl 1 rfl) ?_
  refine lv_iconst (v := 3) hx hb dX7_passIn_11 (by decide) ?_
  refine ur_callVi C h (k := 251) (As := [.int (nI p), .int 3]) (rest := [.int (M.1 252 (67 + 2 * w + 1)), .int hr0, .int (nI w), .int (nI p), .ref (E.2.1 251)]) (k_X7_told l E hI M p 3 (by omega)) (cwV 2 hts gX7_passIn_X7_told rfl rfl rfl (by decide +kernel) ⟨Nat.le_of_ble_eq_true rfl, Nat.le_of_ble_eq_true rfl⟩) (by decide) (uc_251 E _) (T := TX7) (N := 17) rfl rfl hl.1 rfl (Nat.le_of_ble_eq_true rfl) dX7_passIn_12 (fun r_3 M_4 H locs hw_4 h => ?_)
  obtain ⟨hu, er_3⟩ := hw_4
  subst hu
  refine ur_eq (y := M.1 252 (7 + 10 * p + 3)) er_3 ?_
  refine ur_callVi C h (k := 251) (As := [.int (nI p), .int (nI w), .int hr0, .int (M.1 252 (67 + 2 * w + 1)), .int (M.1 252 (7 + 10 * p + 3))]) (rest := []) (k_X7_passBy l E hI M p w hr0 (M.1 252 (67 + 2 * w + 1)) (M.1 252 (7 + 10 * p + 3)) (by omega) (by omega) ht) (cwV 5 hts gX7_passIn_X7_passBy rfl rfl rfl (by decide +kernel) ⟨Nat.le_of_ble_eq_true rfl, Nat.le_of_ble_eq_true rfl⟩) (by decide) (uc_251 E _) (T := TX7) (N := 17) rfl rfl hl.1 rfl (Nat.le_of_ble_eq_true rfl) dX7_passIn_15 (fun r_5 M_6 H locs hw_6 h => ?_)
  obtain ⟨hu, er_5⟩ := hw_6
  subst hu
  refine ur_eq (y := mPass M p w hr0 (M.1 252 (67 + 2 * w + 1)) (M.1 252 (7 + 10 * p + 3))) er_5 ?_
  exact ur_iret C h hr hlocks (⟨rfl, rfl⟩) dX7_passIn_18
set_option maxHeartbeats 4000000 in
set_option maxRecDepth 100000 in
theorem k_X7_passNow (l : Launch) (E : uE) (hI : uI E) (M : uM) (p w : Nat) (hp : p < 6) (hw : w < 6) (ht : ¬ M.1 252 3 = 0) : Met l yX7_passNow wsX7_passNow ({ frames := 4, cells := 0, slots := 0, locals := 100 }) (va_Pc [.ref (E.2.1 251), .int (nI p), .int (nI w)] (uB E M)) (va_Qi (fun r u => M = u ∧ r = mPassIn M p w (M.1 252 4)) (uP E) (uA E)) 0 0 (uA E) := by
  have hin7 : ∀ w ∈ wsX70, w ∈ wsX7_passNow := by decide +kernel
  refine u_start (cc := cX7_passNow) (maxL := 3) (ret := (some .int)) hI (by decide) rfl (Nat.le_of_ble_eq_true rfl) ?_
  intro p_ e_ s_ m_ bl_ me_ c_ C hr hlocks h ls hl
  have hx := C.1.1
  have hb := C.1.2.1
  have hown : s_.vm.findClass RX7 = some m_.cls := C.1.2.2.2.1
  have hts := C.1.2.2.2.2
  have hl : lv_has ls 3 [(0, .ref (E.2.1 251)), (1, .int (nI p)), (2, .int (nI w))] := hl
  refine lv_aload_n hx hb dX7_passNow_0 rfl (lv_at hl 0 rfl) ?_
  refine lv_iload_n hx hb dX7_passNow_1 rfl (lv_at hl 1 rfl) ?_
  refine lv_iload_n hx hb dX7_passNow_2 rfl (lv_at hl 2 rfl) ?_
  refine lv_aload_n hx hb dX7_passNow_3 rfl (lv_at hl 0 rfl) ?_
  refine ur_get C h 251 (by decide) (uc_251 E _) (Cn := RX7) (T := TX7) (N := 17) rfl hin7 0 (by decide) (by decide +kernel) rfl dX7_passNow_4 ?_
  refine lv_iconst (v := 4) hx hb dX7_passNow_7 (by decide) ?_
  refine ur_iald C h 252 (by decide) (uc_252 E _) (4) (by decide) (by decide) dX7_passNow_8 ?_
  refine ur_callVi C h (k := 251) (As := [.int (nI p), .int (nI w), .int (M.1 252 4)]) (rest := []) (k_X7_passIn l E hI M p w (M.1 252 4) (by omega) (by omega) ht) (cwV 3 hts gX7_passNow_X7_passIn rfl rfl rfl (by decide +kernel) ⟨Nat.le_of_ble_eq_true rfl, Nat.le_of_ble_eq_true rfl⟩) (by decide) (uc_251 E _) (T := TX7) (N := 17) rfl rfl hl.1 rfl (Nat.le_of_ble_eq_true rfl) dX7_passNow_9 (fun r_1 M_2 H locs hw_2 h => ?_)
  obtain ⟨hu, er_1⟩ := hw_2
  subst hu
  refine ur_eq (y := mPassIn M p w (M.1 252 4)) er_1 ?_
  exact ur_iret C h hr hlocks (⟨rfl, rfl⟩) dX7_passNow_12
