set_option maxHeartbeats 1000000 in
set_option maxRecDepth 100000 in
theorem k_X1_addSpeaker_1 (l : Launch) (E : uE) (hI : uI E) (M : uM) (x1 x2 : Int32) (n : Nat) (hn : M.1 1 0 = nI n) (hn6 : n < 6) : Met l yX1_addSpeaker wsX1_addSpeaker ({ frames := 0, cells := 0, slots := 0, locals := 0 }) (va_Pc [.ref (E.2.1 1), .int x1, .int x2] (uB E M)) (va_Qi (fun r u => u = xAddS M 1 n x1 x2 ∧ r = nI n) (uP E) (uA E)) 0 0 (uA E) := by
  have hin1 : ∀ w ∈ wsX10, w ∈ wsX1_addSpeaker := by decide +kernel
  have hin3 : ∀ w ∈ wsX30, w ∈ wsX1_addSpeaker := by decide +kernel
  refine u_start (cc := cX1_addSpeaker) (maxL := 4) (ret := (some .int)) hI (by decide) rfl (Nat.le_of_ble_eq_true rfl) ?_
  intro p_ e_ s_ m_ bl_ me_ c_ C hr hlocks h ls hl
  have hx := C.1.1
  have hb := C.1.2.1
  have hown : s_.vm.findClass RX1 = some m_.cls := C.1.2.2.2.1
  have hts := C.1.2.2.2.2
  have hl : lv_has ls 4 [(0, .ref (E.2.1 1)), (1, .int x1), (2, .int x2)] := hl
  refine lv_aload_n hx hb dX1_addSpeaker_0 rfl (lv_at hl 0 rfl) ?_
  refine ur_get C h 1 (by decide) (uc_1 E _) (Cn := RX1) (T := TX1) (N := 11) rfl hin1 0 (by decide) (by decide +kernel) rfl dX1_addSpeaker_1 ?_
  refine ur_eq (y := nI n) (hn) ?_
  refine lv_istore_n (lv' := [(3, .int (nI n)), (0, .ref (E.2.1 1)), (1, .int x1), (2, .int x2)]) hx hb dX1_addSpeaker_4 rfl hl (by decide) rfl (fun ls hl => ?_)
  refine lv_aload_n hx hb dX1_addSpeaker_5 rfl (lv_at hl 1 rfl) ?_
  refine ur_get C h 1 (by decide) (uc_1 E _) (Cn := RX1) (T := TX1) (N := 11) rfl hin1 1 (by decide) (by decide +kernel) rfl dX1_addSpeaker_6 ?_
  refine lv_iload_n hx hb dX1_addSpeaker_9 rfl (lv_at hl 0 rfl) ?_
  refine lv_iload_n hx hb dX1_addSpeaker_10 rfl (lv_at hl 2 rfl) ?_
  refine ur_iast C h 2 (by decide) (uc_2 E) (n) (by omega) (by decide) dX1_addSpeaker_11 (fun M_1 H locs eM_1 h => ?_)
  refine lv_aload_n hx hb dX1_addSpeaker_12 rfl (lv_at hl 1 rfl) ?_
  refine ur_get C h 1 (by decide) (uc_1 E _) (Cn := RX1) (T := TX1) (N := 11) rfl hin1 2 (by decide) (by decide +kernel) rfl dX1_addSpeaker_13 ?_
  refine lv_iload_n hx hb dX1_addSpeaker_16 rfl (lv_at hl 0 rfl) ?_
  refine lv_iload_n hx hb dX1_addSpeaker_17 rfl (lv_at hl 3 rfl) ?_
  refine ur_iast C h 3 (by decide) (uc_3 E) (n) (by omega) (by decide) dX1_addSpeaker_18 (fun M_2 H locs eM_2 h => ?_)
  refine lv_aload_n hx hb dX1_addSpeaker_19 rfl (lv_at hl 1 rfl) ?_
  refine ur_get C h 1 (by decide) (uc_1 E _) (Cn := RX1) (T := TX1) (N := 11) rfl hin1 8 (by decide) (by decide +kernel) rfl dX1_addSpeaker_20 ?_
  refine ur_get C h 7 (by decide) (uc_7 E _) (Cn := RX3) (T := TX3) (N := 6) rfl hin3 0 (by decide) (by decide +kernel) rfl dX1_addSpeaker_23 ?_
  refine lv_iload_n hx hb dX1_addSpeaker_26 rfl (lv_at hl 0 rfl) ?_
  refine lv_iconst (v := 0) hx hb dX1_addSpeaker_27 (by decide) ?_
  refine ur_iast C h 8 (by decide) (uc_8 E) (n) (by omega) (by decide) dX1_addSpeaker_28 (fun M_3 H locs eM_3 h => ?_)
  refine lv_aload_n hx hb dX1_addSpeaker_29 rfl (lv_at hl 1 rfl) ?_
  refine ur_get C h 1 (by decide) (uc_1 E _) (Cn := RX1) (T := TX1) (N := 11) rfl hin1 8 (by decide) (by decide +kernel) rfl dX1_addSpeaker_30 ?_
  refine ur_get C h 7 (by decide) (uc_7 E _) (Cn := RX3) (T := TX3) (N := 6) rfl hin3 1 (by decide) (by decide +kernel) rfl dX1_addSpeaker_33 ?_
  refine lv_iload_n hx hb dX1_addSpeaker_36 rfl (lv_at hl 0 rfl) ?_
  refine lv_iconst (v := 0) hx hb dX1_addSpeaker_37 (by decide) ?_
  refine ur_iast C h 9 (by decide) (uc_9 E) (n) (by omega) (by decide) dX1_addSpeaker_38 (fun M_4 H locs eM_4 h => ?_)
  refine lv_aload_n hx hb dX1_addSpeaker_39 rfl (lv_at hl 1 rfl) ?_
  refine lv_dup hx hb dX1_addSpeaker_40 rfl ?_
  refine ur_get C h 1 (by decide) (uc_1 E _) (Cn := RX1) (T := TX1) (N := 11) rfl hin1 0 (by decide) (by decide +kernel) rfl dX1_addSpeaker_41 ?_
  refine ur_eq (y := nI n) (by rw [eM_4, u_set1, if_neg (by decide), eM_3, u_set1, if_neg (by decide), eM_2, u_set1, if_neg (by decide), eM_1, u_set1, if_neg (by decide)]; exact hn) ?_
  refine lv_iconst (v := 1) hx hb dX1_addSpeaker_44 (by decide) ?_
  refine lv_iadd hx hb dX1_addSpeaker_45 ?_
  refine ur_eq (y := nI (n + 1)) (nI_add n 1) ?_
  refine ur_puti C h 1 (by decide) (uc_1 E _) (Cn := RX1) (T := TX1) (N := 11) rfl hin1 tyX1 tyX1_ok nmX1 0 (by decide) (by decide +kernel) rfl rfl rfl (Nat.le_of_ble_eq_true rfl) (us_1_0 E _ _) dX1_addSpeaker_46 (fun M_5 H locs eM_5 h => ?_)
  refine lv_iload_n hx hb dX1_addSpeaker_49 rfl (lv_at hl 0 rfl) ?_
  exact ur_iret C h hr hlocks (by subst eM_1; subst eM_2; subst eM_3; subst eM_4; subst eM_5; exact ⟨rfl, rfl⟩) dX1_addSpeaker_50
set_option maxHeartbeats 1000000 in
set_option maxRecDepth 100000 in
theorem k_X1_addWord_1 (l : Launch) (E : uE) (hI : uI E) (M : uM) (x1 : Int32) (w : Nat) (hw : M.1 1 4 = nI w) (hw6 : w < 6) : Met l yX1_addWord wsX1_addWord ({ frames := 0, cells := 0, slots := 0, locals := 0 }) (va_Pc [.ref (E.2.1 1), .int x1] (uB E M)) (va_Qi (fun r u => u = xAddW M 1 w x1 ∧ r = nI w) (uP E) (uA E)) 0 0 (uA E) := by
  have hin1 : ∀ w ∈ wsX10, w ∈ wsX1_addWord := by decide +kernel
  have hin3 : ∀ w ∈ wsX30, w ∈ wsX1_addWord := by decide +kernel
  refine u_start (cc := cX1_addWord) (maxL := 3) (ret := (some .int)) hI (by decide) rfl (Nat.le_of_ble_eq_true rfl) ?_
  intro p_ e_ s_ m_ bl_ me_ c_ C hr hlocks h ls hl
  have hx := C.1.1
  have hb := C.1.2.1
  have hown : s_.vm.findClass RX1 = some m_.cls := C.1.2.2.2.1
  have hts := C.1.2.2.2.2
  have hl : lv_has ls 3 [(0, .ref (E.2.1 1)), (1, .int x1)] := hl
  refine lv_aload_n hx hb dX1_addWord_0 rfl (lv_at hl 0 rfl) ?_
  refine ur_get C h 1 (by decide) (uc_1 E _) (Cn := RX1) (T := TX1) (N := 11) rfl hin1 4 (by decide) (by decide +kernel) rfl dX1_addWord_1 ?_
  refine ur_eq (y := nI w) (hw) ?_
  refine lv_istore_n (lv' := [(2, .int (nI w)), (0, .ref (E.2.1 1)), (1, .int x1)]) hx hb dX1_addWord_4 rfl hl (by decide) rfl (fun ls hl => ?_)
  refine lv_aload_n hx hb dX1_addWord_5 rfl (lv_at hl 1 rfl) ?_
  refine ur_get C h 1 (by decide) (uc_1 E _) (Cn := RX1) (T := TX1) (N := 11) rfl hin1 5 (by decide) (by decide +kernel) rfl dX1_addWord_6 ?_
  refine lv_iload_n hx hb dX1_addWord_9 rfl (lv_at hl 0 rfl) ?_
  refine lv_iload_n hx hb dX1_addWord_10 rfl (lv_at hl 2 rfl) ?_
  refine ur_iast C h 5 (by decide) (uc_5 E) (w) (by omega) (by decide) dX1_addWord_11 (fun M_1 H locs eM_1 h => ?_)
  refine lv_aload_n hx hb dX1_addWord_12 rfl (lv_at hl 1 rfl) ?_
  refine ur_get C h 1 (by decide) (uc_1 E _) (Cn := RX1) (T := TX1) (N := 11) rfl hin1 8 (by decide) (by decide +kernel) rfl dX1_addWord_13 ?_
  refine ur_get C h 7 (by decide) (uc_7 E _) (Cn := RX3) (T := TX3) (N := 6) rfl hin3 2 (by decide) (by decide +kernel) rfl dX1_addWord_16 ?_
  refine lv_iload_n hx hb dX1_addWord_19 rfl (lv_at hl 0 rfl) ?_
  refine lv_iconst (v := 0) hx hb dX1_addWord_20 (by decide) ?_
  refine ur_iast C h 10 (by decide) (uc_10 E) (w) (by omega) (by decide) dX1_addWord_21 (fun M_2 H locs eM_2 h => ?_)
  refine lv_aload_n hx hb dX1_addWord_22 rfl (lv_at hl 1 rfl) ?_
  refine lv_dup hx hb dX1_addWord_23 rfl ?_
  refine ur_get C h 1 (by decide) (uc_1 E _) (Cn := RX1) (T := TX1) (N := 11) rfl hin1 4 (by decide) (by decide +kernel) rfl dX1_addWord_24 ?_
  refine ur_eq (y := nI w) (by rw [eM_2, u_set1, if_neg (by decide), eM_1, u_set1, if_neg (by decide)]; exact hw) ?_
  refine lv_iconst (v := 1) hx hb dX1_addWord_27 (by decide) ?_
  refine lv_iadd hx hb dX1_addWord_28 ?_
  refine ur_eq (y := nI (w + 1)) (nI_add w 1) ?_
  refine ur_puti C h 1 (by decide) (uc_1 E _) (Cn := RX1) (T := TX1) (N := 11) rfl hin1 tyX1 tyX1_ok nmX1 4 (by decide) (by decide +kernel) rfl rfl rfl (Nat.le_of_ble_eq_true rfl) (us_1_4 E _ _) dX1_addWord_29 (fun M_3 H locs eM_3 h => ?_)
  refine lv_iload_n hx hb dX1_addWord_32 rfl (lv_at hl 0 rfl) ?_
  exact ur_iret C h hr hlocks (by subst eM_1; subst eM_2; subst eM_3; exact ⟨rfl, rfl⟩) dX1_addWord_33
set_option maxHeartbeats 1000000 in
set_option maxRecDepth 100000 in
theorem k_X1_addSpeaker_157 (l : Launch) (E : uE) (hI : uI E) (M : uM) (x1 x2 : Int32) (n : Nat) (hn : M.1 157 0 = nI n) (hn6 : n < 6) : Met l yX1_addSpeaker wsX1_addSpeaker ({ frames := 0, cells := 0, slots := 0, locals := 0 }) (va_Pc [.ref (E.2.1 157), .int x1, .int x2] (uB E M)) (va_Qi (fun r u => u = xAddS M 157 n x1 x2 ∧ r = nI n) (uP E) (uA E)) 0 0 (uA E) := by
  have hin1 : ∀ w ∈ wsX10, w ∈ wsX1_addSpeaker := by decide +kernel
  have hin3 : ∀ w ∈ wsX30, w ∈ wsX1_addSpeaker := by decide +kernel
  refine u_start (cc := cX1_addSpeaker) (maxL := 4) (ret := (some .int)) hI (by decide) rfl (Nat.le_of_ble_eq_true rfl) ?_
  intro p_ e_ s_ m_ bl_ me_ c_ C hr hlocks h ls hl
  have hx := C.1.1
  have hb := C.1.2.1
  have hown : s_.vm.findClass RX1 = some m_.cls := C.1.2.2.2.1
  have hts := C.1.2.2.2.2
  have hl : lv_has ls 4 [(0, .ref (E.2.1 157)), (1, .int x1), (2, .int x2)] := hl
  refine lv_aload_n hx hb dX1_addSpeaker_0 rfl (lv_at hl 0 rfl) ?_
  refine ur_get C h 157 (by decide) (uc_157 E _) (Cn := RX1) (T := TX1) (N := 11) rfl hin1 0 (by decide) (by decide +kernel) rfl dX1_addSpeaker_1 ?_
  refine ur_eq (y := nI n) (hn) ?_
  refine lv_istore_n (lv' := [(3, .int (nI n)), (0, .ref (E.2.1 157)), (1, .int x1), (2, .int x2)]) hx hb dX1_addSpeaker_4 rfl hl (by decide) rfl (fun ls hl => ?_)
  refine lv_aload_n hx hb dX1_addSpeaker_5 rfl (lv_at hl 1 rfl) ?_
  refine ur_get C h 157 (by decide) (uc_157 E _) (Cn := RX1) (T := TX1) (N := 11) rfl hin1 1 (by decide) (by decide +kernel) rfl dX1_addSpeaker_6 ?_
  refine lv_iload_n hx hb dX1_addSpeaker_9 rfl (lv_at hl 0 rfl) ?_
  refine lv_iload_n hx hb dX1_addSpeaker_10 rfl (lv_at hl 2 rfl) ?_
  refine ur_iast C h 158 (by decide) (uc_158 E) (n) (by omega) (by decide) dX1_addSpeaker_11 (fun M_1 H locs eM_1 h => ?_)
  refine lv_aload_n hx hb dX1_addSpeaker_12 rfl (lv_at hl 1 rfl) ?_
  refine ur_get C h 157 (by decide) (uc_157 E _) (Cn := RX1) (T := TX1) (N := 11) rfl hin1 2 (by decide) (by decide +kernel) rfl dX1_addSpeaker_13 ?_
  refine lv_iload_n hx hb dX1_addSpeaker_16 rfl (lv_at hl 0 rfl) ?_
  refine lv_iload_n hx hb dX1_addSpeaker_17 rfl (lv_at hl 3 rfl) ?_
  refine ur_iast C h 159 (by decide) (uc_159 E) (n) (by omega) (by decide) dX1_addSpeaker_18 (fun M_2 H locs eM_2 h => ?_)
  refine lv_aload_n hx hb dX1_addSpeaker_19 rfl (lv_at hl 1 rfl) ?_
  refine ur_get C h 157 (by decide) (uc_157 E _) (Cn := RX1) (T := TX1) (N := 11) rfl hin1 8 (by decide) (by decide +kernel) rfl dX1_addSpeaker_20 ?_
  refine ur_get C h 163 (by decide) (uc_163 E _) (Cn := RX3) (T := TX3) (N := 6) rfl hin3 0 (by decide) (by decide +kernel) rfl dX1_addSpeaker_23 ?_
  refine lv_iload_n hx hb dX1_addSpeaker_26 rfl (lv_at hl 0 rfl) ?_
  refine lv_iconst (v := 0) hx hb dX1_addSpeaker_27 (by decide) ?_
  refine ur_iast C h 164 (by decide) (uc_164 E) (n) (by omega) (by decide) dX1_addSpeaker_28 (fun M_3 H locs eM_3 h => ?_)
  refine lv_aload_n hx hb dX1_addSpeaker_29 rfl (lv_at hl 1 rfl) ?_
  refine ur_get C h 157 (by decide) (uc_157 E _) (Cn := RX1) (T := TX1) (N := 11) rfl hin1 8 (by decide) (by decide +kernel) rfl dX1_addSpeaker_30 ?_
  refine ur_get C h 163 (by decide) (uc_163 E _) (Cn := RX3) (T := TX3) (N := 6) rfl hin3 1 (by decide) (by decide +kernel) rfl dX1_addSpeaker_33 ?_
  refine lv_iload_n hx hb dX1_addSpeaker_36 rfl (lv_at hl 0 rfl) ?_
  refine lv_iconst (v := 0) hx hb dX1_addSpeaker_37 (by decide) ?_
  refine ur_iast C h 165 (by decide) (uc_165 E) (n) (by omega) (by decide) dX1_addSpeaker_38 (fun M_4 H locs eM_4 h => ?_)
  refine lv_aload_n hx hb dX1_addSpeaker_39 rfl (lv_at hl 1 rfl) ?_
  refine lv_dup hx hb dX1_addSpeaker_40 rfl ?_
  refine ur_get C h 157 (by decide) (uc_157 E _) (Cn := RX1) (T := TX1) (N := 11) rfl hin1 0 (by decide) (by decide +kernel) rfl dX1_addSpeaker_41 ?_
  refine ur_eq (y := nI n) (by rw [eM_4, u_set1, if_neg (by decide), eM_3, u_set1, if_neg (by decide), eM_2, u_set1, if_neg (by decide), eM_1, u_set1, if_neg (by decide)]; exact hn) ?_
  refine lv_iconst (v := 1) hx hb dX1_addSpeaker_44 (by decide) ?_
  refine lv_iadd hx hb dX1_addSpeaker_45 ?_
  refine ur_eq (y := nI (n + 1)) (nI_add n 1) ?_
  refine ur_puti C h 157 (by decide) (uc_157 E _) (Cn := RX1) (T := TX1) (N := 11) rfl hin1 tyX1 tyX1_ok nmX1 0 (by decide) (by decide +kernel) rfl rfl rfl (Nat.le_of_ble_eq_true rfl) (us_157_0 E _ _) dX1_addSpeaker_46 (fun M_5 H locs eM_5 h => ?_)
  refine lv_iload_n hx hb dX1_addSpeaker_49 rfl (lv_at hl 0 rfl) ?_
  exact ur_iret C h hr hlocks (by subst eM_1; subst eM_2; subst eM_3; subst eM_4; subst eM_5; exact ⟨rfl, rfl⟩) dX1_addSpeaker_50
set_option maxHeartbeats 1000000 in
set_option maxRecDepth 100000 in
theorem k_X1_addWord_157 (l : Launch) (E : uE) (hI : uI E) (M : uM) (x1 : Int32) (w : Nat) (hw : M.1 157 4 = nI w) (hw6 : w < 6) : Met l yX1_addWord wsX1_addWord ({ frames := 0, cells := 0, slots := 0, locals := 0 }) (va_Pc [.ref (E.2.1 157), .int x1] (uB E M)) (va_Qi (fun r u => u = xAddW M 157 w x1 ∧ r = nI w) (uP E) (uA E)) 0 0 (uA E) := by
  have hin1 : ∀ w ∈ wsX10, w ∈ wsX1_addWord := by decide +kernel
  have hin3 : ∀ w ∈ wsX30, w ∈ wsX1_addWord := by decide +kernel
  refine u_start (cc := cX1_addWord) (maxL := 3) (ret := (some .int)) hI (by decide) rfl (Nat.le_of_ble_eq_true rfl) ?_
  intro p_ e_ s_ m_ bl_ me_ c_ C hr hlocks h ls hl
  have hx := C.1.1
  have hb := C.1.2.1
  have hown : s_.vm.findClass RX1 = some m_.cls := C.1.2.2.2.1
  have hts := C.1.2.2.2.2
  have hl : lv_has ls 3 [(0, .ref (E.2.1 157)), (1, .int x1)] := hl
  refine lv_aload_n hx hb dX1_addWord_0 rfl (lv_at hl 0 rfl) ?_
  refine ur_get C h 157 (by decide) (uc_157 E _) (Cn := RX1) (T := TX1) (N := 11) rfl hin1 4 (by decide) (by decide +kernel) rfl dX1_addWord_1 ?_
  refine ur_eq (y := nI w) (hw) ?_
  refine lv_istore_n (lv' := [(2, .int (nI w)), (0, .ref (E.2.1 157)), (1, .int x1)]) hx hb dX1_addWord_4 rfl hl (by decide) rfl (fun ls hl => ?_)
  refine lv_aload_n hx hb dX1_addWord_5 rfl (lv_at hl 1 rfl) ?_
  refine ur_get C h 157 (by decide) (uc_157 E _) (Cn := RX1) (T := TX1) (N := 11) rfl hin1 5 (by decide) (by decide +kernel) rfl dX1_addWord_6 ?_
  refine lv_iload_n hx hb dX1_addWord_9 rfl (lv_at hl 0 rfl) ?_
  refine lv_iload_n hx hb dX1_addWord_10 rfl (lv_at hl 2 rfl) ?_
  refine ur_iast C h 161 (by decide) (uc_161 E) (w) (by omega) (by decide) dX1_addWord_11 (fun M_1 H locs eM_1 h => ?_)
  refine lv_aload_n hx hb dX1_addWord_12 rfl (lv_at hl 1 rfl) ?_
  refine ur_get C h 157 (by decide) (uc_157 E _) (Cn := RX1) (T := TX1) (N := 11) rfl hin1 8 (by decide) (by decide +kernel) rfl dX1_addWord_13 ?_
  refine ur_get C h 163 (by decide) (uc_163 E _) (Cn := RX3) (T := TX3) (N := 6) rfl hin3 2 (by decide) (by decide +kernel) rfl dX1_addWord_16 ?_
  refine lv_iload_n hx hb dX1_addWord_19 rfl (lv_at hl 0 rfl) ?_
  refine lv_iconst (v := 0) hx hb dX1_addWord_20 (by decide) ?_
  refine ur_iast C h 166 (by decide) (uc_166 E) (w) (by omega) (by decide) dX1_addWord_21 (fun M_2 H locs eM_2 h => ?_)
  refine lv_aload_n hx hb dX1_addWord_22 rfl (lv_at hl 1 rfl) ?_
  refine lv_dup hx hb dX1_addWord_23 rfl ?_
  refine ur_get C h 157 (by decide) (uc_157 E _) (Cn := RX1) (T := TX1) (N := 11) rfl hin1 4 (by decide) (by decide +kernel) rfl dX1_addWord_24 ?_
  refine ur_eq (y := nI w) (by rw [eM_2, u_set1, if_neg (by decide), eM_1, u_set1, if_neg (by decide)]; exact hw) ?_
  refine lv_iconst (v := 1) hx hb dX1_addWord_27 (by decide) ?_
  refine lv_iadd hx hb dX1_addWord_28 ?_
  refine ur_eq (y := nI (w + 1)) (nI_add w 1) ?_
  refine ur_puti C h 157 (by decide) (uc_157 E _) (Cn := RX1) (T := TX1) (N := 11) rfl hin1 tyX1 tyX1_ok nmX1 4 (by decide) (by decide +kernel) rfl rfl rfl (Nat.le_of_ble_eq_true rfl) (us_157_4 E _ _) dX1_addWord_29 (fun M_3 H locs eM_3 h => ?_)
  refine lv_iload_n hx hb dX1_addWord_32 rfl (lv_at hl 0 rfl) ?_
  exact ur_iret C h hr hlocks (by subst eM_1; subst eM_2; subst eM_3; exact ⟨rfl, rfl⟩) dX1_addWord_33
set_option maxHeartbeats 1000000 in
set_option maxRecDepth 100000 in
theorem k_X1_becomeLike_79_1 (l : Launch) (E : uE) (hI : uI E) (M : uM) (k : Nat) (hk : M.1 1 10 = nI k) (hk8 : k ≤ 8) (hP84 : ∀ i, i < 8 → uMom (M.2.2 84 i)) (hP6 : ∀ i, i < 8 → uMom (M.2.2 6 i)) : Met l yX1_becomeLike wsX1_becomeLike ({ frames := 3, cells := 0, slots := 0, locals := 68 }) (va_Pc [.ref (E.2.1 79), .ref (E.2.1 1)] (uB E M)) (va_Qv (fun u => u = xFordCp M 79 1 k) (uP E) (uA E)) 0 0 (uA E) := by
  have hin1 : ∀ w ∈ wsX10, w ∈ wsX1_becomeLike := by decide +kernel
  refine u_start (cc := cX1_becomeLike) (maxL := 3) (ret := none) hI (by decide) rfl (Nat.le_of_ble_eq_true rfl) ?_
  intro p_ e_ s_ m_ bl_ me_ c_ C hr hlocks h ls hl
  have hx := C.1.1
  have hb := C.1.2.1
  have hown : s_.vm.findClass RX1 = some m_.cls := C.1.2.2.2.1
  have hts := C.1.2.2.2.2
  have hl : lv_has ls 3 [(0, .ref (E.2.1 79)), (1, .ref (E.2.1 1))] := hl
  refine lv_aload_n hx hb dX1_becomeLike_0 rfl (lv_at hl 0 rfl) ?_
  refine lv_aload_n hx hb dX1_becomeLike_1 rfl (lv_at hl 1 rfl) ?_
  refine ur_get C h 1 (by decide) (uc_1 E _) (Cn := RX1) (T := TX1) (N := 11) rfl hin1 0 (by decide) (by decide +kernel) rfl dX1_becomeLike_2 ?_
  refine ur_puti C h 79 (by decide) (uc_79 E _) (Cn := RX1) (T := TX1) (N := 11) rfl hin1 tyX1 tyX1_ok nmX1 0 (by decide) (by decide +kernel) rfl rfl rfl (Nat.le_of_ble_eq_true rfl) (us_79_0 E _ _) dX1_becomeLike_5 (fun M_1 H locs eM_1 h => ?_)
  refine lv_aload_n hx hb dX1_becomeLike_8 rfl (lv_at hl 1 rfl) ?_
  refine ur_get C h 1 (by decide) (uc_1 E _) (Cn := RX1) (T := TX1) (N := 11) rfl hin1 1 (by decide) (by decide +kernel) rfl dX1_becomeLike_9 ?_
  refine lv_iconst (v := 0) hx hb dX1_becomeLike_12 (by decide) ?_
  refine lv_aload_n hx hb dX1_becomeLike_13 rfl (lv_at hl 0 rfl) ?_
  refine ur_get C h 79 (by decide) (uc_79 E _) (Cn := RX1) (T := TX1) (N := 11) rfl hin1 1 (by decide) (by decide +kernel) rfl dX1_becomeLike_14 ?_
  refine lv_iconst (v := 0) hx hb dX1_becomeLike_17 (by decide) ?_
  refine lv_bipush (v := 6) hx hb dX1_becomeLike_18 (by decide) ?_
  refine ur_copyi C h hl.1 (by decide +kernel) (by decide +kernel) (by decide +kernel) (by decide +kernel) 2 80 (by decide) (by decide) (uc_2 E _) (uc_80 E) (0) (0) (6) (by omega) (by omega) (by decide) (by decide) (Nat.le_of_ble_eq_true rfl) (Nat.le_of_ble_eq_true rfl) dX1_becomeLike_20 (fun M_2 H locs eM_2 h => ?_)
  refine lv_aload_n hx hb dX1_becomeLike_23 rfl (lv_at hl 1 rfl) ?_
  refine ur_get C h 1 (by decide) (uc_1 E _) (Cn := RX1) (T := TX1) (N := 11) rfl hin1 2 (by decide) (by decide +kernel) rfl dX1_becomeLike_24 ?_
  refine lv_iconst (v := 0) hx hb dX1_becomeLike_27 (by decide) ?_
  refine lv_aload_n hx hb dX1_becomeLike_28 rfl (lv_at hl 0 rfl) ?_
  refine ur_get C h 79 (by decide) (uc_79 E _) (Cn := RX1) (T := TX1) (N := 11) rfl hin1 2 (by decide) (by decide +kernel) rfl dX1_becomeLike_29 ?_
  refine lv_iconst (v := 0) hx hb dX1_becomeLike_32 (by decide) ?_
  refine lv_bipush (v := 6) hx hb dX1_becomeLike_33 (by decide) ?_
  refine ur_copyi C h hl.1 (by decide +kernel) (by decide +kernel) (by decide +kernel) (by decide +kernel) 3 81 (by decide) (by decide) (uc_3 E _) (uc_81 E) (0) (0) (6) (by omega) (by omega) (by decide) (by decide) (Nat.le_of_ble_eq_true rfl) (Nat.le_of_ble_eq_true rfl) dX1_becomeLike_35 (fun M_3 H locs eM_3 h => ?_)
  refine lv_aload_n hx hb dX1_becomeLike_38 rfl (lv_at hl 1 rfl) ?_
  refine ur_get C h 1 (by decide) (uc_1 E _) (Cn := RX1) (T := TX1) (N := 11) rfl hin1 3 (by decide) (by decide +kernel) rfl dX1_becomeLike_39 ?_
  refine lv_iconst (v := 0) hx hb dX1_becomeLike_42 (by decide) ?_
  refine lv_aload_n hx hb dX1_becomeLike_43 rfl (lv_at hl 0 rfl) ?_
  refine ur_get C h 79 (by decide) (uc_79 E _) (Cn := RX1) (T := TX1) (N := 11) rfl hin1 3 (by decide) (by decide +kernel) rfl dX1_becomeLike_44 ?_
  refine lv_iconst (v := 0) hx hb dX1_becomeLike_47 (by decide) ?_
  refine lv_bipush (v := 36) hx hb dX1_becomeLike_48 (by decide) ?_
  refine ur_copyi C h hl.1 (by decide +kernel) (by decide +kernel) (by decide +kernel) (by decide +kernel) 4 82 (by decide) (by decide) (uc_4 E _) (uc_82 E) (0) (0) (36) (by omega) (by omega) (by decide) (by decide) (Nat.le_of_ble_eq_true rfl) (Nat.le_of_ble_eq_true rfl) dX1_becomeLike_50 (fun M_4 H locs eM_4 h => ?_)
  refine lv_aload_n hx hb dX1_becomeLike_53 rfl (lv_at hl 0 rfl) ?_
  refine lv_aload_n hx hb dX1_becomeLike_54 rfl (lv_at hl 1 rfl) ?_
  refine ur_get C h 1 (by decide) (uc_1 E _) (Cn := RX1) (T := TX1) (N := 11) rfl hin1 4 (by decide) (by decide +kernel) rfl dX1_becomeLike_55 ?_
  refine ur_puti C h 79 (by decide) (uc_79 E _) (Cn := RX1) (T := TX1) (N := 11) rfl hin1 tyX1 tyX1_ok nmX1 4 (by decide) (by decide +kernel) rfl rfl rfl (Nat.le_of_ble_eq_true rfl) (us_79_4 E _ _) dX1_becomeLike_58 (fun M_5 H locs eM_5 h => ?_)
  refine lv_aload_n hx hb dX1_becomeLike_61 rfl (lv_at hl 1 rfl) ?_
  refine ur_get C h 1 (by decide) (uc_1 E _) (Cn := RX1) (T := TX1) (N := 11) rfl hin1 5 (by decide) (by decide +kernel) rfl dX1_becomeLike_62 ?_
  refine lv_iconst (v := 0) hx hb dX1_becomeLike_65 (by decide) ?_
  refine lv_aload_n hx hb dX1_becomeLike_66 rfl (lv_at hl 0 rfl) ?_
  refine ur_get C h 79 (by decide) (uc_79 E _) (Cn := RX1) (T := TX1) (N := 11) rfl hin1 5 (by decide) (by decide +kernel) rfl dX1_becomeLike_67 ?_
  refine lv_iconst (v := 0) hx hb dX1_becomeLike_70 (by decide) ?_
  refine lv_bipush (v := 6) hx hb dX1_becomeLike_71 (by decide) ?_
  refine ur_copyi C h hl.1 (by decide +kernel) (by decide +kernel) (by decide +kernel) (by decide +kernel) 5 83 (by decide) (by decide) (uc_5 E _) (uc_83 E) (0) (0) (6) (by omega) (by omega) (by decide) (by decide) (Nat.le_of_ble_eq_true rfl) (Nat.le_of_ble_eq_true rfl) dX1_becomeLike_73 (fun M_6 H locs eM_6 h => ?_)
  refine lv_aload_n hx hb dX1_becomeLike_76 rfl (lv_at hl 0 rfl) ?_
  refine lv_aload_n hx hb dX1_becomeLike_77 rfl (lv_at hl 1 rfl) ?_
  refine ur_get C h 1 (by decide) (uc_1 E _) (Cn := RX1) (T := TX1) (N := 11) rfl hin1 6 (by decide) (by decide +kernel) rfl dX1_becomeLike_78 ?_
  refine ur_puti C h 79 (by decide) (uc_79 E _) (Cn := RX1) (T := TX1) (N := 11) rfl hin1 tyX1 tyX1_ok nmX1 6 (by decide) (by decide +kernel) rfl rfl rfl (Nat.le_of_ble_eq_true rfl) (us_79_6 E _ _) dX1_becomeLike_81 (fun M_7 H locs eM_7 h => ?_)
  refine lv_aload_n hx hb dX1_becomeLike_84 rfl (lv_at hl 0 rfl) ?_
  refine lv_aload_n hx hb dX1_becomeLike_85 rfl (lv_at hl 1 rfl) ?_
  refine ur_get C h 1 (by decide) (uc_1 E _) (Cn := RX1) (T := TX1) (N := 11) rfl hin1 7 (by decide) (by decide +kernel) rfl dX1_becomeLike_86 ?_
  refine ur_puti C h 79 (by decide) (uc_79 E _) (Cn := RX1) (T := TX1) (N := 11) rfl hin1 tyX1 tyX1_ok nmX1 7 (by decide) (by decide +kernel) rfl rfl rfl (Nat.le_of_ble_eq_true rfl) (us_79_7 E _ _) dX1_becomeLike_89 (fun M_8 H locs eM_8 h => ?_)
  refine lv_aload_n hx hb dX1_becomeLike_92 rfl (lv_at hl 0 rfl) ?_
  refine ur_get C h 79 (by decide) (uc_79 E _) (Cn := RX1) (T := TX1) (N := 11) rfl hin1 8 (by decide) (by decide +kernel) rfl dX1_becomeLike_93 ?_
  refine lv_aload_n hx hb dX1_becomeLike_96 rfl (lv_at hl 1 rfl) ?_
  refine ur_get C h 1 (by decide) (uc_1 E _) (Cn := RX1) (T := TX1) (N := 11) rfl hin1 8 (by decide) (by decide +kernel) rfl dX1_becomeLike_97 ?_
  refine ur_callVv C h (k := 85) (As := [.ref (E.2.1 7)]) (rest := []) (k_X3_becomeLike l E hI M_8 85 7 uMom_85 uMom_7) (cwV 1 hts gX1_becomeLike_X3_becomeLike rfl rfl rfl (by decide +kernel) ⟨Nat.le_of_ble_eq_true rfl, Nat.le_of_ble_eq_true rfl⟩) (by decide) (uc_85 E _) (T := TX3) (N := 6) rfl rfl hl.1 rfl (Nat.le_of_ble_eq_true rfl) dX1_becomeLike_100 (fun M_10 H locs hw_10 h => ?_)
  have eM_10 := hw_10
  refine lv_aload_n hx hb dX1_becomeLike_103 rfl (lv_at hl 0 rfl) ?_
  refine lv_aload_n hx hb dX1_becomeLike_104 rfl (lv_at hl 1 rfl) ?_
  refine ur_get C h 1 (by decide) (uc_1 E _) (Cn := RX1) (T := TX1) (N := 11) rfl hin1 10 (by decide) (by decide +kernel) rfl dX1_becomeLike_105 ?_
  refine ur_eq (y := nI k) ((by rw [eM_10, xMomCp_far (by have := uMom_ford uMom_85; omega)]; exact (by rw [eM_8, u_set1, if_neg (by decide), eM_7, u_set1, if_neg (by decide), eM_6, u_row1, if_neg (by decide), eM_5, u_set1, if_neg (by decide), eM_4, u_row1, if_neg (by decide), eM_3, u_row1, if_neg (by decide), eM_2, u_row1, if_neg (by decide), eM_1, u_set1, if_neg (by decide)]; exact hk))) ?_
  refine ur_puti C h 79 (by decide) (uc_79 E _) (Cn := RX1) (T := TX1) (N := 11) rfl hin1 tyX1 tyX1_ok nmX1 10 (by decide) (by decide +kernel) rfl rfl rfl (Nat.le_of_ble_eq_true rfl) (us_79_10 E _ _) dX1_becomeLike_108 (fun M_11 H locs eM_11 h => ?_)
  refine lv_iconst (v := 0) hx hb dX1_becomeLike_111 (by decide) ?_
  refine lv_istore_n (lv' := [(2, .int 0), (0, .ref (E.2.1 79)), (1, .ref (E.2.1 1))]) hx hb dX1_becomeLike_112 rfl hl (by decide) rfl (fun ls hl => ?_)
  have lp113 : ∀ (n113 : Nat) (i : Nat) (Mi : uM), k - i < n113 → i ≤ k → Mi = xBL M_11 79 1 i → Mi.2.2 = M.2.2 → Mi.1 79 10 = nI k → ∀ (H : Heap) (locs : List Loc) (ls : Array Slot), uH E Mi s_ H locs → lv_has ls 3 [(2, .int (nI i)), (0, .ref (E.2.1 79)), (1, .ref (E.2.1 1))] → W p_ l e_ ({ frames := 3, cells := 0, slots := 0, locals := 68 }) s_ m_ (List.toArray [.ref (E.2.1 79), .ref (E.2.1 1)]) bl_ me_ c_ H locs 0 0 (MQ bl_ (va_Qv (fun u => u = xFordCp M 79 1 k) (uP E) (uA E)) (List.toArray [.ref (E.2.1 79), .ref (E.2.1 1)]) s_ 0 0 (uA E)) (F0 m_ 113 ls []) := by
    intro n113
    induction n113 with
    | zero => intro i Mi hms; exact absurd hms (Nat.not_lt_zero _)
    | succ n113 ih113 =>
      intro i Mi hms113 hi hMi hM2 hkn H locs ls h hl
      refine lv_iload_n hx hb dX1_becomeLike_113 rfl (lv_at hl 0 rfl) ?_
      refine lv_aload_n hx hb dX1_becomeLike_114 rfl (lv_at hl 1 rfl) ?_
      refine ur_get C h 79 (by decide) (uc_79 E _) (Cn := RX1) (T := TX1) (N := 11) rfl hin1 10 (by decide) (by decide +kernel) rfl dX1_becomeLike_115 ?_
      refine ur_eq (y := nI k) (hkn) ?_
      refine lv_icmp_ge (tgt := 142) hx hb dX1_becomeLike_118 (by decide) (fun c_12 => ?_) (fun c_12 => ?_)
      · skip
        have c_12 : k ≤ i := (nI_leI (a := k) (b := i) (by omega) (by omega)).mp c_12
        exact ur_vret C h hr hlocks (by have fM_1 : M_1 = sSet M 79 1 0 := eM_1; have fM_2 : M_2 = sRow M_1 80 2 6 := eM_2; have fM_3 : M_3 = sRow M_2 81 3 6 := eM_3; have fM_4 : M_4 = sRow M_3 82 4 36 := eM_4; have fM_5 : M_5 = sSet M_4 79 1 4 := eM_5; have fM_6 : M_6 = sRow M_5 83 5 6 := eM_6; have fM_7 : M_7 = sSet M_6 79 1 6 := eM_7; have fM_8 : M_8 = sSet M_7 79 1 7 := eM_8; have fM_11 : M_11 = sSet M_10 79 1 10 := (by rw [eM_11]; unfold sSet; rw [show M_10.1 1 10 = nI k from ((by rw [eM_10, xMomCp_far (by have := uMom_ford uMom_85; omega)]; exact (by rw [eM_8, u_set1, if_neg (by decide), eM_7, u_set1, if_neg (by decide), eM_6, u_row1, if_neg (by decide), eM_5, u_set1, if_neg (by decide), eM_4, u_row1, if_neg (by decide), eM_3, u_row1, if_neg (by decide), eM_2, u_row1, if_neg (by decide), eM_1, u_set1, if_neg (by decide)]; exact hk)))]); rw [hMi, show i = k by omega, fM_11, eM_10, fM_8, fM_7, fM_6, fM_5, fM_4, fM_3, fM_2, fM_1]; rfl) dX1_becomeLike_142
      · skip
        have c_12 : ¬ k ≤ i := fun z => c_12 ((nI_leI (a := k) (b := i) (by omega) (by omega)).mpr z)
        refine lv_aload_n hx hb dX1_becomeLike_121 rfl (lv_at hl 1 rfl) ?_
        refine ur_get C h 79 (by decide) (uc_79 E _) (Cn := RX1) (T := TX1) (N := 11) rfl hin1 9 (by decide) (by decide +kernel) rfl dX1_becomeLike_122 ?_
        refine lv_iload_n hx hb dX1_becomeLike_125 rfl (lv_at hl 0 rfl) ?_
        refine ur_aald C h 84 3 (by decide) (uc_84 E _) rfl (i) (by omega) (by decide) dX1_becomeLike_126 ?_
        refine lv_aload_n hx hb dX1_becomeLike_127 rfl (lv_at hl 2 rfl) ?_
        refine ur_get C h 1 (by decide) (uc_1 E _) (Cn := RX1) (T := TX1) (N := 11) rfl hin1 9 (by decide) (by decide +kernel) rfl dX1_becomeLike_128 ?_
        refine lv_iload_n hx hb dX1_becomeLike_131 rfl (lv_at hl 0 rfl) ?_
        refine ur_aald C h 6 3 (by decide) (uc_6 E _) rfl (i) (by omega) (by decide) dX1_becomeLike_132 ?_
        refine ur_callVv C h (k := (Mi.2.2 84 i)) (As := [.ref (E.2.1 (Mi.2.2 6 i))]) (rest := []) (k_X3_becomeLike l E hI Mi (Mi.2.2 84 i) (Mi.2.2 6 i) (show uMom (Mi.2.2 84 i) from by rw [hM2]; exact hP84 i (by omega)) (show uMom (Mi.2.2 6 i) from by rw [hM2]; exact hP6 i (by omega))) (cwV 1 hts gX1_becomeLike_X3_becomeLike rfl rfl rfl (by decide +kernel) ⟨Nat.le_of_ble_eq_true rfl, Nat.le_of_ble_eq_true rfl⟩) (by have := uMom_lt (show uMom (Mi.2.2 84 i) from by rw [hM2]; exact hP84 i (by omega)); omega) (uc_m0 (show uMom (Mi.2.2 84 i) from by rw [hM2]; exact hP84 i (by omega)) E _) (T := TX3) (N := 6) rfl rfl hl.1 rfl (Nat.le_of_ble_eq_true rfl) dX1_becomeLike_133 (fun M_14 H locs hw_14 h => ?_)
        have eM_14 := hw_14
        refine lv_iinc (v := nI (i + 1)) (lv' := [(2, .int (nI (i + 1))), (0, .ref (E.2.1 79)), (1, .ref (E.2.1 1))]) hx hb dX1_becomeLike_136 hl (k := 0) rfl (nI_add i 1) (by decide) rfl (fun ls hl => ?_)
        refine lv_goto (tgt := 113) hx hb dX1_becomeLike_139 (by decide) ?_
        exact ih113  (i + 1) M_14 (by omega) (by omega) (by rw [eM_14, hMi]; rfl) (by rw [eM_14]; exact hM2) (by rw [eM_14, xMomCp_far (by have := uMom_ford (show uMom (Mi.2.2 84 i) from by rw [hM2]; exact hP84 i (by omega)); omega)]; exact hkn) _ _ _ h (lv_sub hl [0, 1, 2] rfl)
  exact lp113 _ 0 M_11 (Nat.lt_succ_self _) (by omega) rfl (by subst eM_1; subst eM_2; subst eM_3; subst eM_4; subst eM_5; subst eM_6; subst eM_7; subst eM_8; subst eM_10; subst eM_11; rfl) (by rw [eM_11, u_set1, if_pos rfl, if_pos rfl]; try rfl) _ _ _ h (lv_sub hl [0, 1, 2] rfl)
set_option maxHeartbeats 1000000 in
set_option maxRecDepth 100000 in
theorem k_X1_becomeLike_1_79 (l : Launch) (E : uE) (hI : uI E) (M : uM) (k : Nat) (hk : M.1 79 10 = nI k) (hk8 : k ≤ 8) (hP6 : ∀ i, i < 8 → uMom (M.2.2 6 i)) (hP84 : ∀ i, i < 8 → uMom (M.2.2 84 i)) : Met l yX1_becomeLike wsX1_becomeLike ({ frames := 3, cells := 0, slots := 0, locals := 68 }) (va_Pc [.ref (E.2.1 1), .ref (E.2.1 79)] (uB E M)) (va_Qv (fun u => u = xFordCp M 1 79 k) (uP E) (uA E)) 0 0 (uA E) := by
  have hin1 : ∀ w ∈ wsX10, w ∈ wsX1_becomeLike := by decide +kernel
  refine u_start (cc := cX1_becomeLike) (maxL := 3) (ret := none) hI (by decide) rfl (Nat.le_of_ble_eq_true rfl) ?_
  intro p_ e_ s_ m_ bl_ me_ c_ C hr hlocks h ls hl
  have hx := C.1.1
  have hb := C.1.2.1
  have hown : s_.vm.findClass RX1 = some m_.cls := C.1.2.2.2.1
  have hts := C.1.2.2.2.2
  have hl : lv_has ls 3 [(0, .ref (E.2.1 1)), (1, .ref (E.2.1 79))] := hl
  refine lv_aload_n hx hb dX1_becomeLike_0 rfl (lv_at hl 0 rfl) ?_
  refine lv_aload_n hx hb dX1_becomeLike_1 rfl (lv_at hl 1 rfl) ?_
  refine ur_get C h 79 (by decide) (uc_79 E _) (Cn := RX1) (T := TX1) (N := 11) rfl hin1 0 (by decide) (by decide +kernel) rfl dX1_becomeLike_2 ?_
  refine ur_puti C h 1 (by decide) (uc_1 E _) (Cn := RX1) (T := TX1) (N := 11) rfl hin1 tyX1 tyX1_ok nmX1 0 (by decide) (by decide +kernel) rfl rfl rfl (Nat.le_of_ble_eq_true rfl) (us_1_0 E _ _) dX1_becomeLike_5 (fun M_1 H locs eM_1 h => ?_)
  refine lv_aload_n hx hb dX1_becomeLike_8 rfl (lv_at hl 1 rfl) ?_
  refine ur_get C h 79 (by decide) (uc_79 E _) (Cn := RX1) (T := TX1) (N := 11) rfl hin1 1 (by decide) (by decide +kernel) rfl dX1_becomeLike_9 ?_
  refine lv_iconst (v := 0) hx hb dX1_becomeLike_12 (by decide) ?_
  refine lv_aload_n hx hb dX1_becomeLike_13 rfl (lv_at hl 0 rfl) ?_
  refine ur_get C h 1 (by decide) (uc_1 E _) (Cn := RX1) (T := TX1) (N := 11) rfl hin1 1 (by decide) (by decide +kernel) rfl dX1_becomeLike_14 ?_
  refine lv_iconst (v := 0) hx hb dX1_becomeLike_17 (by decide) ?_
  refine lv_bipush (v := 6) hx hb dX1_becomeLike_18 (by decide) ?_
  refine ur_copyi C h hl.1 (by decide +kernel) (by decide +kernel) (by decide +kernel) (by decide +kernel) 80 2 (by decide) (by decide) (uc_80 E _) (uc_2 E) (0) (0) (6) (by omega) (by omega) (by decide) (by decide) (Nat.le_of_ble_eq_true rfl) (Nat.le_of_ble_eq_true rfl) dX1_becomeLike_20 (fun M_2 H locs eM_2 h => ?_)
  refine lv_aload_n hx hb dX1_becomeLike_23 rfl (lv_at hl 1 rfl) ?_
  refine ur_get C h 79 (by decide) (uc_79 E _) (Cn := RX1) (T := TX1) (N := 11) rfl hin1 2 (by decide) (by decide +kernel) rfl dX1_becomeLike_24 ?_
  refine lv_iconst (v := 0) hx hb dX1_becomeLike_27 (by decide) ?_
  refine lv_aload_n hx hb dX1_becomeLike_28 rfl (lv_at hl 0 rfl) ?_
  refine ur_get C h 1 (by decide) (uc_1 E _) (Cn := RX1) (T := TX1) (N := 11) rfl hin1 2 (by decide) (by decide +kernel) rfl dX1_becomeLike_29 ?_
  refine lv_iconst (v := 0) hx hb dX1_becomeLike_32 (by decide) ?_
  refine lv_bipush (v := 6) hx hb dX1_becomeLike_33 (by decide) ?_
  refine ur_copyi C h hl.1 (by decide +kernel) (by decide +kernel) (by decide +kernel) (by decide +kernel) 81 3 (by decide) (by decide) (uc_81 E _) (uc_3 E) (0) (0) (6) (by omega) (by omega) (by decide) (by decide) (Nat.le_of_ble_eq_true rfl) (Nat.le_of_ble_eq_true rfl) dX1_becomeLike_35 (fun M_3 H locs eM_3 h => ?_)
  refine lv_aload_n hx hb dX1_becomeLike_38 rfl (lv_at hl 1 rfl) ?_
  refine ur_get C h 79 (by decide) (uc_79 E _) (Cn := RX1) (T := TX1) (N := 11) rfl hin1 3 (by decide) (by decide +kernel) rfl dX1_becomeLike_39 ?_
  refine lv_iconst (v := 0) hx hb dX1_becomeLike_42 (by decide) ?_
  refine lv_aload_n hx hb dX1_becomeLike_43 rfl (lv_at hl 0 rfl) ?_
  refine ur_get C h 1 (by decide) (uc_1 E _) (Cn := RX1) (T := TX1) (N := 11) rfl hin1 3 (by decide) (by decide +kernel) rfl dX1_becomeLike_44 ?_
  refine lv_iconst (v := 0) hx hb dX1_becomeLike_47 (by decide) ?_
  refine lv_bipush (v := 36) hx hb dX1_becomeLike_48 (by decide) ?_
  refine ur_copyi C h hl.1 (by decide +kernel) (by decide +kernel) (by decide +kernel) (by decide +kernel) 82 4 (by decide) (by decide) (uc_82 E _) (uc_4 E) (0) (0) (36) (by omega) (by omega) (by decide) (by decide) (Nat.le_of_ble_eq_true rfl) (Nat.le_of_ble_eq_true rfl) dX1_becomeLike_50 (fun M_4 H locs eM_4 h => ?_)
  refine lv_aload_n hx hb dX1_becomeLike_53 rfl (lv_at hl 0 rfl) ?_
  refine lv_aload_n hx hb dX1_becomeLike_54 rfl (lv_at hl 1 rfl) ?_
  refine ur_get C h 79 (by decide) (uc_79 E _) (Cn := RX1) (T := TX1) (N := 11) rfl hin1 4 (by decide) (by decide +kernel) rfl dX1_becomeLike_55 ?_
  refine ur_puti C h 1 (by decide) (uc_1 E _) (Cn := RX1) (T := TX1) (N := 11) rfl hin1 tyX1 tyX1_ok nmX1 4 (by decide) (by decide +kernel) rfl rfl rfl (Nat.le_of_ble_eq_true rfl) (us_1_4 E _ _) dX1_becomeLike_58 (fun M_5 H locs eM_5 h => ?_)
  refine lv_aload_n hx hb dX1_becomeLike_61 rfl (lv_at hl 1 rfl) ?_
  refine ur_get C h 79 (by decide) (uc_79 E _) (Cn := RX1) (T := TX1) (N := 11) rfl hin1 5 (by decide) (by decide +kernel) rfl dX1_becomeLike_62 ?_
  refine lv_iconst (v := 0) hx hb dX1_becomeLike_65 (by decide) ?_
  refine lv_aload_n hx hb dX1_becomeLike_66 rfl (lv_at hl 0 rfl) ?_
  refine ur_get C h 1 (by decide) (uc_1 E _) (Cn := RX1) (T := TX1) (N := 11) rfl hin1 5 (by decide) (by decide +kernel) rfl dX1_becomeLike_67 ?_
  refine lv_iconst (v := 0) hx hb dX1_becomeLike_70 (by decide) ?_
  refine lv_bipush (v := 6) hx hb dX1_becomeLike_71 (by decide) ?_
  refine ur_copyi C h hl.1 (by decide +kernel) (by decide +kernel) (by decide +kernel) (by decide +kernel) 83 5 (by decide) (by decide) (uc_83 E _) (uc_5 E) (0) (0) (6) (by omega) (by omega) (by decide) (by decide) (Nat.le_of_ble_eq_true rfl) (Nat.le_of_ble_eq_true rfl) dX1_becomeLike_73 (fun M_6 H locs eM_6 h => ?_)
  refine lv_aload_n hx hb dX1_becomeLike_76 rfl (lv_at hl 0 rfl) ?_
  refine lv_aload_n hx hb dX1_becomeLike_77 rfl (lv_at hl 1 rfl) ?_
  refine ur_get C h 79 (by decide) (uc_79 E _) (Cn := RX1) (T := TX1) (N := 11) rfl hin1 6 (by decide) (by decide +kernel) rfl dX1_becomeLike_78 ?_
  refine ur_puti C h 1 (by decide) (uc_1 E _) (Cn := RX1) (T := TX1) (N := 11) rfl hin1 tyX1 tyX1_ok nmX1 6 (by decide) (by decide +kernel) rfl rfl rfl (Nat.le_of_ble_eq_true rfl) (us_1_6 E _ _) dX1_becomeLike_81 (fun M_7 H locs eM_7 h => ?_)
  refine lv_aload_n hx hb dX1_becomeLike_84 rfl (lv_at hl 0 rfl) ?_
  refine lv_aload_n hx hb dX1_becomeLike_85 rfl (lv_at hl 1 rfl) ?_
  refine ur_get C h 79 (by decide) (uc_79 E _) (Cn := RX1) (T := TX1) (N := 11) rfl hin1 7 (by decide) (by decide +kernel) rfl dX1_becomeLike_86 ?_
  refine ur_puti C h 1 (by decide) (uc_1 E _) (Cn := RX1) (T := TX1) (N := 11) rfl hin1 tyX1 tyX1_ok nmX1 7 (by decide) (by decide +kernel) rfl rfl rfl (Nat.le_of_ble_eq_true rfl) (us_1_7 E _ _) dX1_becomeLike_89 (fun M_8 H locs eM_8 h => ?_)
  refine lv_aload_n hx hb dX1_becomeLike_92 rfl (lv_at hl 0 rfl) ?_
  refine ur_get C h 1 (by decide) (uc_1 E _) (Cn := RX1) (T := TX1) (N := 11) rfl hin1 8 (by decide) (by decide +kernel) rfl dX1_becomeLike_93 ?_
  refine lv_aload_n hx hb dX1_becomeLike_96 rfl (lv_at hl 1 rfl) ?_
  refine ur_get C h 79 (by decide) (uc_79 E _) (Cn := RX1) (T := TX1) (N := 11) rfl hin1 8 (by decide) (by decide +kernel) rfl dX1_becomeLike_97 ?_
  refine ur_callVv C h (k := 7) (As := [.ref (E.2.1 85)]) (rest := []) (k_X3_becomeLike l E hI M_8 7 85 uMom_7 uMom_85) (cwV 1 hts gX1_becomeLike_X3_becomeLike rfl rfl rfl (by decide +kernel) ⟨Nat.le_of_ble_eq_true rfl, Nat.le_of_ble_eq_true rfl⟩) (by decide) (uc_7 E _) (T := TX3) (N := 6) rfl rfl hl.1 rfl (Nat.le_of_ble_eq_true rfl) dX1_becomeLike_100 (fun M_10 H locs hw_10 h => ?_)
  have eM_10 := hw_10
  refine lv_aload_n hx hb dX1_becomeLike_103 rfl (lv_at hl 0 rfl) ?_
  refine lv_aload_n hx hb dX1_becomeLike_104 rfl (lv_at hl 1 rfl) ?_
  refine ur_get C h 79 (by decide) (uc_79 E _) (Cn := RX1) (T := TX1) (N := 11) rfl hin1 10 (by decide) (by decide +kernel) rfl dX1_becomeLike_105 ?_
  refine ur_eq (y := nI k) ((by rw [eM_10, xMomCp_far (by have := uMom_ford uMom_7; omega)]; exact (by rw [eM_8, u_set1, if_neg (by decide), eM_7, u_set1, if_neg (by decide), eM_6, u_row1, if_neg (by decide), eM_5, u_set1, if_neg (by decide), eM_4, u_row1, if_neg (by decide), eM_3, u_row1, if_neg (by decide), eM_2, u_row1, if_neg (by decide), eM_1, u_set1, if_neg (by decide)]; exact hk))) ?_
  refine ur_puti C h 1 (by decide) (uc_1 E _) (Cn := RX1) (T := TX1) (N := 11) rfl hin1 tyX1 tyX1_ok nmX1 10 (by decide) (by decide +kernel) rfl rfl rfl (Nat.le_of_ble_eq_true rfl) (us_1_10 E _ _) dX1_becomeLike_108 (fun M_11 H locs eM_11 h => ?_)
  refine lv_iconst (v := 0) hx hb dX1_becomeLike_111 (by decide) ?_
  refine lv_istore_n (lv' := [(2, .int 0), (0, .ref (E.2.1 1)), (1, .ref (E.2.1 79))]) hx hb dX1_becomeLike_112 rfl hl (by decide) rfl (fun ls hl => ?_)
  have lp113 : ∀ (n113 : Nat) (i : Nat) (Mi : uM), k - i < n113 → i ≤ k → Mi = xBL M_11 1 79 i → Mi.2.2 = M.2.2 → Mi.1 1 10 = nI k → ∀ (H : Heap) (locs : List Loc) (ls : Array Slot), uH E Mi s_ H locs → lv_has ls 3 [(2, .int (nI i)), (0, .ref (E.2.1 1)), (1, .ref (E.2.1 79))] → W p_ l e_ ({ frames := 3, cells := 0, slots := 0, locals := 68 }) s_ m_ (List.toArray [.ref (E.2.1 1), .ref (E.2.1 79)]) bl_ me_ c_ H locs 0 0 (MQ bl_ (va_Qv (fun u => u = xFordCp M 1 79 k) (uP E) (uA E)) (List.toArray [.ref (E.2.1 1), .ref (E.2.1 79)]) s_ 0 0 (uA E)) (F0 m_ 113 ls []) := by
    intro n113
    induction n113 with
    | zero => intro i Mi hms; exact absurd hms (Nat.not_lt_zero _)
    | succ n113 ih113 =>
      intro i Mi hms113 hi hMi hM2 hkn H locs ls h hl
      refine lv_iload_n hx hb dX1_becomeLike_113 rfl (lv_at hl 0 rfl) ?_
      refine lv_aload_n hx hb dX1_becomeLike_114 rfl (lv_at hl 1 rfl) ?_
      refine ur_get C h 1 (by decide) (uc_1 E _) (Cn := RX1) (T := TX1) (N := 11) rfl hin1 10 (by decide) (by decide +kernel) rfl dX1_becomeLike_115 ?_
      refine ur_eq (y := nI k) (hkn) ?_
      refine lv_icmp_ge (tgt := 142) hx hb dX1_becomeLike_118 (by decide) (fun c_12 => ?_) (fun c_12 => ?_)
      · skip
        have c_12 : k ≤ i := (nI_leI (a := k) (b := i) (by omega) (by omega)).mp c_12
        exact ur_vret C h hr hlocks (by have fM_1 : M_1 = sSet M 1 79 0 := eM_1; have fM_2 : M_2 = sRow M_1 2 80 6 := eM_2; have fM_3 : M_3 = sRow M_2 3 81 6 := eM_3; have fM_4 : M_4 = sRow M_3 4 82 36 := eM_4; have fM_5 : M_5 = sSet M_4 1 79 4 := eM_5; have fM_6 : M_6 = sRow M_5 5 83 6 := eM_6; have fM_7 : M_7 = sSet M_6 1 79 6 := eM_7; have fM_8 : M_8 = sSet M_7 1 79 7 := eM_8; have fM_11 : M_11 = sSet M_10 1 79 10 := (by rw [eM_11]; unfold sSet; rw [show M_10.1 79 10 = nI k from ((by rw [eM_10, xMomCp_far (by have := uMom_ford uMom_7; omega)]; exact (by rw [eM_8, u_set1, if_neg (by decide), eM_7, u_set1, if_neg (by decide), eM_6, u_row1, if_neg (by decide), eM_5, u_set1, if_neg (by decide), eM_4, u_row1, if_neg (by decide), eM_3, u_row1, if_neg (by decide), eM_2, u_row1, if_neg (by decide), eM_1, u_set1, if_neg (by decide)]; exact hk)))]); rw [hMi, show i = k by omega, fM_11, eM_10, fM_8, fM_7, fM_6, fM_5, fM_4, fM_3, fM_2, fM_1]; rfl) dX1_becomeLike_142
      · skip
        have c_12 : ¬ k ≤ i := fun z => c_12 ((nI_leI (a := k) (b := i) (by omega) (by omega)).mpr z)
        refine lv_aload_n hx hb dX1_becomeLike_121 rfl (lv_at hl 1 rfl) ?_
        refine ur_get C h 1 (by decide) (uc_1 E _) (Cn := RX1) (T := TX1) (N := 11) rfl hin1 9 (by decide) (by decide +kernel) rfl dX1_becomeLike_122 ?_
        refine lv_iload_n hx hb dX1_becomeLike_125 rfl (lv_at hl 0 rfl) ?_
        refine ur_aald C h 6 3 (by decide) (uc_6 E _) rfl (i) (by omega) (by decide) dX1_becomeLike_126 ?_
        refine lv_aload_n hx hb dX1_becomeLike_127 rfl (lv_at hl 2 rfl) ?_
        refine ur_get C h 79 (by decide) (uc_79 E _) (Cn := RX1) (T := TX1) (N := 11) rfl hin1 9 (by decide) (by decide +kernel) rfl dX1_becomeLike_128 ?_
        refine lv_iload_n hx hb dX1_becomeLike_131 rfl (lv_at hl 0 rfl) ?_
        refine ur_aald C h 84 3 (by decide) (uc_84 E _) rfl (i) (by omega) (by decide) dX1_becomeLike_132 ?_
        refine ur_callVv C h (k := (Mi.2.2 6 i)) (As := [.ref (E.2.1 (Mi.2.2 84 i))]) (rest := []) (k_X3_becomeLike l E hI Mi (Mi.2.2 6 i) (Mi.2.2 84 i) (show uMom (Mi.2.2 6 i) from by rw [hM2]; exact hP6 i (by omega)) (show uMom (Mi.2.2 84 i) from by rw [hM2]; exact hP84 i (by omega))) (cwV 1 hts gX1_becomeLike_X3_becomeLike rfl rfl rfl (by decide +kernel) ⟨Nat.le_of_ble_eq_true rfl, Nat.le_of_ble_eq_true rfl⟩) (by have := uMom_lt (show uMom (Mi.2.2 6 i) from by rw [hM2]; exact hP6 i (by omega)); omega) (uc_m0 (show uMom (Mi.2.2 6 i) from by rw [hM2]; exact hP6 i (by omega)) E _) (T := TX3) (N := 6) rfl rfl hl.1 rfl (Nat.le_of_ble_eq_true rfl) dX1_becomeLike_133 (fun M_14 H locs hw_14 h => ?_)
        have eM_14 := hw_14
        refine lv_iinc (v := nI (i + 1)) (lv' := [(2, .int (nI (i + 1))), (0, .ref (E.2.1 1)), (1, .ref (E.2.1 79))]) hx hb dX1_becomeLike_136 hl (k := 0) rfl (nI_add i 1) (by decide) rfl (fun ls hl => ?_)
        refine lv_goto (tgt := 113) hx hb dX1_becomeLike_139 (by decide) ?_
        exact ih113  (i + 1) M_14 (by omega) (by omega) (by rw [eM_14, hMi]; rfl) (by rw [eM_14]; exact hM2) (by rw [eM_14, xMomCp_far (by have := uMom_ford (show uMom (Mi.2.2 6 i) from by rw [hM2]; exact hP6 i (by omega)); omega)]; exact hkn) _ _ _ h (lv_sub hl [0, 1, 2] rfl)
  exact lp113 _ 0 M_11 (Nat.lt_succ_self _) (by omega) rfl (by subst eM_1; subst eM_2; subst eM_3; subst eM_4; subst eM_5; subst eM_6; subst eM_7; subst eM_8; subst eM_10; subst eM_11; rfl) (by rw [eM_11, u_set1, if_pos rfl, if_pos rfl]; try rfl) _ _ _ h (lv_sub hl [0, 1, 2] rfl)
set_option maxHeartbeats 1000000 in
set_option maxRecDepth 100000 in
theorem k_X1_becomeLike_1_157 (l : Launch) (E : uE) (hI : uI E) (M : uM) (k : Nat) (hk : M.1 157 10 = nI k) (hk8 : k ≤ 8) (hP6 : ∀ i, i < 8 → uMom (M.2.2 6 i)) (hP162 : ∀ i, i < 8 → uMom (M.2.2 162 i)) : Met l yX1_becomeLike wsX1_becomeLike ({ frames := 3, cells := 0, slots := 0, locals := 68 }) (va_Pc [.ref (E.2.1 1), .ref (E.2.1 157)] (uB E M)) (va_Qv (fun u => u = xFordCp M 1 157 k) (uP E) (uA E)) 0 0 (uA E) := by
  have hin1 : ∀ w ∈ wsX10, w ∈ wsX1_becomeLike := by decide +kernel
  refine u_start (cc := cX1_becomeLike) (maxL := 3) (ret := none) hI (by decide) rfl (Nat.le_of_ble_eq_true rfl) ?_
  intro p_ e_ s_ m_ bl_ me_ c_ C hr hlocks h ls hl
  have hx := C.1.1
  have hb := C.1.2.1
  have hown : s_.vm.findClass RX1 = some m_.cls := C.1.2.2.2.1
  have hts := C.1.2.2.2.2
  have hl : lv_has ls 3 [(0, .ref (E.2.1 1)), (1, .ref (E.2.1 157))] := hl
  refine lv_aload_n hx hb dX1_becomeLike_0 rfl (lv_at hl 0 rfl) ?_
  refine lv_aload_n hx hb dX1_becomeLike_1 rfl (lv_at hl 1 rfl) ?_
  refine ur_get C h 157 (by decide) (uc_157 E _) (Cn := RX1) (T := TX1) (N := 11) rfl hin1 0 (by decide) (by decide +kernel) rfl dX1_becomeLike_2 ?_
  refine ur_puti C h 1 (by decide) (uc_1 E _) (Cn := RX1) (T := TX1) (N := 11) rfl hin1 tyX1 tyX1_ok nmX1 0 (by decide) (by decide +kernel) rfl rfl rfl (Nat.le_of_ble_eq_true rfl) (us_1_0 E _ _) dX1_becomeLike_5 (fun M_1 H locs eM_1 h => ?_)
  refine lv_aload_n hx hb dX1_becomeLike_8 rfl (lv_at hl 1 rfl) ?_
  refine ur_get C h 157 (by decide) (uc_157 E _) (Cn := RX1) (T := TX1) (N := 11) rfl hin1 1 (by decide) (by decide +kernel) rfl dX1_becomeLike_9 ?_
  refine lv_iconst (v := 0) hx hb dX1_becomeLike_12 (by decide) ?_
  refine lv_aload_n hx hb dX1_becomeLike_13 rfl (lv_at hl 0 rfl) ?_
  refine ur_get C h 1 (by decide) (uc_1 E _) (Cn := RX1) (T := TX1) (N := 11) rfl hin1 1 (by decide) (by decide +kernel) rfl dX1_becomeLike_14 ?_
  refine lv_iconst (v := 0) hx hb dX1_becomeLike_17 (by decide) ?_
  refine lv_bipush (v := 6) hx hb dX1_becomeLike_18 (by decide) ?_
  refine ur_copyi C h hl.1 (by decide +kernel) (by decide +kernel) (by decide +kernel) (by decide +kernel) 158 2 (by decide) (by decide) (uc_158 E _) (uc_2 E) (0) (0) (6) (by omega) (by omega) (by decide) (by decide) (Nat.le_of_ble_eq_true rfl) (Nat.le_of_ble_eq_true rfl) dX1_becomeLike_20 (fun M_2 H locs eM_2 h => ?_)
  refine lv_aload_n hx hb dX1_becomeLike_23 rfl (lv_at hl 1 rfl) ?_
  refine ur_get C h 157 (by decide) (uc_157 E _) (Cn := RX1) (T := TX1) (N := 11) rfl hin1 2 (by decide) (by decide +kernel) rfl dX1_becomeLike_24 ?_
  refine lv_iconst (v := 0) hx hb dX1_becomeLike_27 (by decide) ?_
  refine lv_aload_n hx hb dX1_becomeLike_28 rfl (lv_at hl 0 rfl) ?_
  refine ur_get C h 1 (by decide) (uc_1 E _) (Cn := RX1) (T := TX1) (N := 11) rfl hin1 2 (by decide) (by decide +kernel) rfl dX1_becomeLike_29 ?_
  refine lv_iconst (v := 0) hx hb dX1_becomeLike_32 (by decide) ?_
  refine lv_bipush (v := 6) hx hb dX1_becomeLike_33 (by decide) ?_
  refine ur_copyi C h hl.1 (by decide +kernel) (by decide +kernel) (by decide +kernel) (by decide +kernel) 159 3 (by decide) (by decide) (uc_159 E _) (uc_3 E) (0) (0) (6) (by omega) (by omega) (by decide) (by decide) (Nat.le_of_ble_eq_true rfl) (Nat.le_of_ble_eq_true rfl) dX1_becomeLike_35 (fun M_3 H locs eM_3 h => ?_)
  refine lv_aload_n hx hb dX1_becomeLike_38 rfl (lv_at hl 1 rfl) ?_
  refine ur_get C h 157 (by decide) (uc_157 E _) (Cn := RX1) (T := TX1) (N := 11) rfl hin1 3 (by decide) (by decide +kernel) rfl dX1_becomeLike_39 ?_
  refine lv_iconst (v := 0) hx hb dX1_becomeLike_42 (by decide) ?_
  refine lv_aload_n hx hb dX1_becomeLike_43 rfl (lv_at hl 0 rfl) ?_
  refine ur_get C h 1 (by decide) (uc_1 E _) (Cn := RX1) (T := TX1) (N := 11) rfl hin1 3 (by decide) (by decide +kernel) rfl dX1_becomeLike_44 ?_
  refine lv_iconst (v := 0) hx hb dX1_becomeLike_47 (by decide) ?_
  refine lv_bipush (v := 36) hx hb dX1_becomeLike_48 (by decide) ?_
  refine ur_copyi C h hl.1 (by decide +kernel) (by decide +kernel) (by decide +kernel) (by decide +kernel) 160 4 (by decide) (by decide) (uc_160 E _) (uc_4 E) (0) (0) (36) (by omega) (by omega) (by decide) (by decide) (Nat.le_of_ble_eq_true rfl) (Nat.le_of_ble_eq_true rfl) dX1_becomeLike_50 (fun M_4 H locs eM_4 h => ?_)
  refine lv_aload_n hx hb dX1_becomeLike_53 rfl (lv_at hl 0 rfl) ?_
  refine lv_aload_n hx hb dX1_becomeLike_54 rfl (lv_at hl 1 rfl) ?_
  refine ur_get C h 157 (by decide) (uc_157 E _) (Cn := RX1) (T := TX1) (N := 11) rfl hin1 4 (by decide) (by decide +kernel) rfl dX1_becomeLike_55 ?_
  refine ur_puti C h 1 (by decide) (uc_1 E _) (Cn := RX1) (T := TX1) (N := 11) rfl hin1 tyX1 tyX1_ok nmX1 4 (by decide) (by decide +kernel) rfl rfl rfl (Nat.le_of_ble_eq_true rfl) (us_1_4 E _ _) dX1_becomeLike_58 (fun M_5 H locs eM_5 h => ?_)
  refine lv_aload_n hx hb dX1_becomeLike_61 rfl (lv_at hl 1 rfl) ?_
  refine ur_get C h 157 (by decide) (uc_157 E _) (Cn := RX1) (T := TX1) (N := 11) rfl hin1 5 (by decide) (by decide +kernel) rfl dX1_becomeLike_62 ?_
  refine lv_iconst (v := 0) hx hb dX1_becomeLike_65 (by decide) ?_
  refine lv_aload_n hx hb dX1_becomeLike_66 rfl (lv_at hl 0 rfl) ?_
  refine ur_get C h 1 (by decide) (uc_1 E _) (Cn := RX1) (T := TX1) (N := 11) rfl hin1 5 (by decide) (by decide +kernel) rfl dX1_becomeLike_67 ?_
  refine lv_iconst (v := 0) hx hb dX1_becomeLike_70 (by decide) ?_
  refine lv_bipush (v := 6) hx hb dX1_becomeLike_71 (by decide) ?_
  refine ur_copyi C h hl.1 (by decide +kernel) (by decide +kernel) (by decide +kernel) (by decide +kernel) 161 5 (by decide) (by decide) (uc_161 E _) (uc_5 E) (0) (0) (6) (by omega) (by omega) (by decide) (by decide) (Nat.le_of_ble_eq_true rfl) (Nat.le_of_ble_eq_true rfl) dX1_becomeLike_73 (fun M_6 H locs eM_6 h => ?_)
  refine lv_aload_n hx hb dX1_becomeLike_76 rfl (lv_at hl 0 rfl) ?_
  refine lv_aload_n hx hb dX1_becomeLike_77 rfl (lv_at hl 1 rfl) ?_
  refine ur_get C h 157 (by decide) (uc_157 E _) (Cn := RX1) (T := TX1) (N := 11) rfl hin1 6 (by decide) (by decide +kernel) rfl dX1_becomeLike_78 ?_
  refine ur_puti C h 1 (by decide) (uc_1 E _) (Cn := RX1) (T := TX1) (N := 11) rfl hin1 tyX1 tyX1_ok nmX1 6 (by decide) (by decide +kernel) rfl rfl rfl (Nat.le_of_ble_eq_true rfl) (us_1_6 E _ _) dX1_becomeLike_81 (fun M_7 H locs eM_7 h => ?_)
  refine lv_aload_n hx hb dX1_becomeLike_84 rfl (lv_at hl 0 rfl) ?_
  refine lv_aload_n hx hb dX1_becomeLike_85 rfl (lv_at hl 1 rfl) ?_
  refine ur_get C h 157 (by decide) (uc_157 E _) (Cn := RX1) (T := TX1) (N := 11) rfl hin1 7 (by decide) (by decide +kernel) rfl dX1_becomeLike_86 ?_
  refine ur_puti C h 1 (by decide) (uc_1 E _) (Cn := RX1) (T := TX1) (N := 11) rfl hin1 tyX1 tyX1_ok nmX1 7 (by decide) (by decide +kernel) rfl rfl rfl (Nat.le_of_ble_eq_true rfl) (us_1_7 E _ _) dX1_becomeLike_89 (fun M_8 H locs eM_8 h => ?_)
  refine lv_aload_n hx hb dX1_becomeLike_92 rfl (lv_at hl 0 rfl) ?_
  refine ur_get C h 1 (by decide) (uc_1 E _) (Cn := RX1) (T := TX1) (N := 11) rfl hin1 8 (by decide) (by decide +kernel) rfl dX1_becomeLike_93 ?_
  refine lv_aload_n hx hb dX1_becomeLike_96 rfl (lv_at hl 1 rfl) ?_
  refine ur_get C h 157 (by decide) (uc_157 E _) (Cn := RX1) (T := TX1) (N := 11) rfl hin1 8 (by decide) (by decide +kernel) rfl dX1_becomeLike_97 ?_
  refine ur_callVv C h (k := 7) (As := [.ref (E.2.1 163)]) (rest := []) (k_X3_becomeLike l E hI M_8 7 163 uMom_7 uMom_163) (cwV 1 hts gX1_becomeLike_X3_becomeLike rfl rfl rfl (by decide +kernel) ⟨Nat.le_of_ble_eq_true rfl, Nat.le_of_ble_eq_true rfl⟩) (by decide) (uc_7 E _) (T := TX3) (N := 6) rfl rfl hl.1 rfl (Nat.le_of_ble_eq_true rfl) dX1_becomeLike_100 (fun M_10 H locs hw_10 h => ?_)
  have eM_10 := hw_10
  refine lv_aload_n hx hb dX1_becomeLike_103 rfl (lv_at hl 0 rfl) ?_
  refine lv_aload_n hx hb dX1_becomeLike_104 rfl (lv_at hl 1 rfl) ?_
  refine ur_get C h 157 (by decide) (uc_157 E _) (Cn := RX1) (T := TX1) (N := 11) rfl hin1 10 (by decide) (by decide +kernel) rfl dX1_becomeLike_105 ?_
  refine ur_eq (y := nI k) ((by rw [eM_10, xMomCp_far (by have := uMom_ford uMom_7; omega)]; exact (by rw [eM_8, u_set1, if_neg (by decide), eM_7, u_set1, if_neg (by decide), eM_6, u_row1, if_neg (by decide), eM_5, u_set1, if_neg (by decide), eM_4, u_row1, if_neg (by decide), eM_3, u_row1, if_neg (by decide), eM_2, u_row1, if_neg (by decide), eM_1, u_set1, if_neg (by decide)]; exact hk))) ?_
  refine ur_puti C h 1 (by decide) (uc_1 E _) (Cn := RX1) (T := TX1) (N := 11) rfl hin1 tyX1 tyX1_ok nmX1 10 (by decide) (by decide +kernel) rfl rfl rfl (Nat.le_of_ble_eq_true rfl) (us_1_10 E _ _) dX1_becomeLike_108 (fun M_11 H locs eM_11 h => ?_)
  refine lv_iconst (v := 0) hx hb dX1_becomeLike_111 (by decide) ?_
  refine lv_istore_n (lv' := [(2, .int 0), (0, .ref (E.2.1 1)), (1, .ref (E.2.1 157))]) hx hb dX1_becomeLike_112 rfl hl (by decide) rfl (fun ls hl => ?_)
  have lp113 : ∀ (n113 : Nat) (i : Nat) (Mi : uM), k - i < n113 → i ≤ k → Mi = xBL M_11 1 157 i → Mi.2.2 = M.2.2 → Mi.1 1 10 = nI k → ∀ (H : Heap) (locs : List Loc) (ls : Array Slot), uH E Mi s_ H locs → lv_has ls 3 [(2, .int (nI i)), (0, .ref (E.2.1 1)), (1, .ref (E.2.1 157))] → W p_ l e_ ({ frames := 3, cells := 0, slots := 0, locals := 68 }) s_ m_ (List.toArray [.ref (E.2.1 1), .ref (E.2.1 157)]) bl_ me_ c_ H locs 0 0 (MQ bl_ (va_Qv (fun u => u = xFordCp M 1 157 k) (uP E) (uA E)) (List.toArray [.ref (E.2.1 1), .ref (E.2.1 157)]) s_ 0 0 (uA E)) (F0 m_ 113 ls []) := by
    intro n113
    induction n113 with
    | zero => intro i Mi hms; exact absurd hms (Nat.not_lt_zero _)
    | succ n113 ih113 =>
      intro i Mi hms113 hi hMi hM2 hkn H locs ls h hl
      refine lv_iload_n hx hb dX1_becomeLike_113 rfl (lv_at hl 0 rfl) ?_
      refine lv_aload_n hx hb dX1_becomeLike_114 rfl (lv_at hl 1 rfl) ?_
      refine ur_get C h 1 (by decide) (uc_1 E _) (Cn := RX1) (T := TX1) (N := 11) rfl hin1 10 (by decide) (by decide +kernel) rfl dX1_becomeLike_115 ?_
      refine ur_eq (y := nI k) (hkn) ?_
      refine lv_icmp_ge (tgt := 142) hx hb dX1_becomeLike_118 (by decide) (fun c_12 => ?_) (fun c_12 => ?_)
      · skip
        have c_12 : k ≤ i := (nI_leI (a := k) (b := i) (by omega) (by omega)).mp c_12
        exact ur_vret C h hr hlocks (by have fM_1 : M_1 = sSet M 1 157 0 := eM_1; have fM_2 : M_2 = sRow M_1 2 158 6 := eM_2; have fM_3 : M_3 = sRow M_2 3 159 6 := eM_3; have fM_4 : M_4 = sRow M_3 4 160 36 := eM_4; have fM_5 : M_5 = sSet M_4 1 157 4 := eM_5; have fM_6 : M_6 = sRow M_5 5 161 6 := eM_6; have fM_7 : M_7 = sSet M_6 1 157 6 := eM_7; have fM_8 : M_8 = sSet M_7 1 157 7 := eM_8; have fM_11 : M_11 = sSet M_10 1 157 10 := (by rw [eM_11]; unfold sSet; rw [show M_10.1 157 10 = nI k from ((by rw [eM_10, xMomCp_far (by have := uMom_ford uMom_7; omega)]; exact (by rw [eM_8, u_set1, if_neg (by decide), eM_7, u_set1, if_neg (by decide), eM_6, u_row1, if_neg (by decide), eM_5, u_set1, if_neg (by decide), eM_4, u_row1, if_neg (by decide), eM_3, u_row1, if_neg (by decide), eM_2, u_row1, if_neg (by decide), eM_1, u_set1, if_neg (by decide)]; exact hk)))]); rw [hMi, show i = k by omega, fM_11, eM_10, fM_8, fM_7, fM_6, fM_5, fM_4, fM_3, fM_2, fM_1]; rfl) dX1_becomeLike_142
      · skip
        have c_12 : ¬ k ≤ i := fun z => c_12 ((nI_leI (a := k) (b := i) (by omega) (by omega)).mpr z)
        refine lv_aload_n hx hb dX1_becomeLike_121 rfl (lv_at hl 1 rfl) ?_
        refine ur_get C h 1 (by decide) (uc_1 E _) (Cn := RX1) (T := TX1) (N := 11) rfl hin1 9 (by decide) (by decide +kernel) rfl dX1_becomeLike_122 ?_
        refine lv_iload_n hx hb dX1_becomeLike_125 rfl (lv_at hl 0 rfl) ?_
        refine ur_aald C h 6 3 (by decide) (uc_6 E _) rfl (i) (by omega) (by decide) dX1_becomeLike_126 ?_
        refine lv_aload_n hx hb dX1_becomeLike_127 rfl (lv_at hl 2 rfl) ?_
        refine ur_get C h 157 (by decide) (uc_157 E _) (Cn := RX1) (T := TX1) (N := 11) rfl hin1 9 (by decide) (by decide +kernel) rfl dX1_becomeLike_128 ?_
        refine lv_iload_n hx hb dX1_becomeLike_131 rfl (lv_at hl 0 rfl) ?_
        refine ur_aald C h 162 3 (by decide) (uc_162 E _) rfl (i) (by omega) (by decide) dX1_becomeLike_132 ?_
        refine ur_callVv C h (k := (Mi.2.2 6 i)) (As := [.ref (E.2.1 (Mi.2.2 162 i))]) (rest := []) (k_X3_becomeLike l E hI Mi (Mi.2.2 6 i) (Mi.2.2 162 i) (show uMom (Mi.2.2 6 i) from by rw [hM2]; exact hP6 i (by omega)) (show uMom (Mi.2.2 162 i) from by rw [hM2]; exact hP162 i (by omega))) (cwV 1 hts gX1_becomeLike_X3_becomeLike rfl rfl rfl (by decide +kernel) ⟨Nat.le_of_ble_eq_true rfl, Nat.le_of_ble_eq_true rfl⟩) (by have := uMom_lt (show uMom (Mi.2.2 6 i) from by rw [hM2]; exact hP6 i (by omega)); omega) (uc_m0 (show uMom (Mi.2.2 6 i) from by rw [hM2]; exact hP6 i (by omega)) E _) (T := TX3) (N := 6) rfl rfl hl.1 rfl (Nat.le_of_ble_eq_true rfl) dX1_becomeLike_133 (fun M_14 H locs hw_14 h => ?_)
        have eM_14 := hw_14
        refine lv_iinc (v := nI (i + 1)) (lv' := [(2, .int (nI (i + 1))), (0, .ref (E.2.1 1)), (1, .ref (E.2.1 157))]) hx hb dX1_becomeLike_136 hl (k := 0) rfl (nI_add i 1) (by decide) rfl (fun ls hl => ?_)
        refine lv_goto (tgt := 113) hx hb dX1_becomeLike_139 (by decide) ?_
        exact ih113  (i + 1) M_14 (by omega) (by omega) (by rw [eM_14, hMi]; rfl) (by rw [eM_14]; exact hM2) (by rw [eM_14, xMomCp_far (by have := uMom_ford (show uMom (Mi.2.2 6 i) from by rw [hM2]; exact hP6 i (by omega)); omega)]; exact hkn) _ _ _ h (lv_sub hl [0, 1, 2] rfl)
  exact lp113 _ 0 M_11 (Nat.lt_succ_self _) (by omega) rfl (by subst eM_1; subst eM_2; subst eM_3; subst eM_4; subst eM_5; subst eM_6; subst eM_7; subst eM_8; subst eM_10; subst eM_11; rfl) (by rw [eM_11, u_set1, if_pos rfl, if_pos rfl]; try rfl) _ _ _ h (lv_sub hl [0, 1, 2] rfl)
set_option maxHeartbeats 1000000 in
set_option maxRecDepth 100000 in
theorem k_X1_settle (l : Launch) (E : uE) (hI : uI E) (M : uM) (k : Nat) (hk : M.1 157 10 = nI k) (hk8 : k ≤ 8) (hP6 : ∀ i, i < 8 → uMom (M.2.2 6 i)) (hP162 : ∀ i, i < 8 → uMom (M.2.2 162 i)) : Met l yX1_settle wsX1_settle ({ frames := 4, cells := 0, slots := 0, locals := 90 }) (va_Pc [.ref (E.2.1 1), .ref (E.2.1 157)] (uB E M)) (va_Qv (fun u => u = xSettle M k) (uP E) (uA E)) 0 0 (uA E) := by
  have hin1 : ∀ w ∈ wsX10, w ∈ wsX1_settle := by decide +kernel
  have hin3 : ∀ w ∈ wsX30, w ∈ wsX1_settle := by decide +kernel
  refine u_start (cc := cX1_settle) (maxL := 4) (ret := none) hI (by decide) rfl (Nat.le_of_ble_eq_true rfl) ?_
  intro p_ e_ s_ m_ bl_ me_ c_ C hr hlocks h ls hl
  have hx := C.1.1
  have hb := C.1.2.1
  have hown : s_.vm.findClass RX1 = some m_.cls := C.1.2.2.2.1
  have hts := C.1.2.2.2.2
  have hl : lv_has ls 4 [(0, .ref (E.2.1 1)), (1, .ref (E.2.1 157))] := hl
  refine lv_aload_n hx hb dX1_settle_0 rfl (lv_at hl 0 rfl) ?_
  refine ur_get C h 1 (by decide) (uc_1 E _) (Cn := RX1) (T := TX1) (N := 11) rfl hin1 7 (by decide) (by decide +kernel) rfl dX1_settle_1 ?_
  refine lv_istore_n (lv' := [(2, .int (M.1 1 7)), (0, .ref (E.2.1 1)), (1, .ref (E.2.1 157))]) hx hb dX1_settle_4 rfl hl (by decide) rfl (fun ls hl => ?_)
  refine lv_aload_n hx hb dX1_settle_5 rfl (lv_at hl 1 rfl) ?_
  refine ur_get C h 1 (by decide) (uc_1 E _) (Cn := RX1) (T := TX1) (N := 11) rfl hin1 8 (by decide) (by decide +kernel) rfl dX1_settle_6 ?_
  refine ur_get C h 7 (by decide) (uc_7 E _) (Cn := RX3) (T := TX3) (N := 6) rfl hin3 5 (by decide) (by decide +kernel) rfl dX1_settle_9 ?_
  refine lv_istore_n (lv' := [(3, .int (M.1 7 5)), (2, .int (M.1 1 7)), (0, .ref (E.2.1 1)), (1, .ref (E.2.1 157))]) hx hb dX1_settle_12 rfl hl (by decide) rfl (fun ls hl => ?_)
  refine lv_aload_n hx hb dX1_settle_13 rfl (lv_at hl 2 rfl) ?_
  refine lv_aload_n hx hb dX1_settle_14 rfl (lv_at hl 3 rfl) ?_
  refine ur_callVv C h (k := 1) (As := [.ref (E.2.1 157)]) (rest := []) (k_X1_becomeLike_1_157 l E hI M k (hk) (by omega) hP6 hP162) (cwV 1 hts gX1_settle_X1_becomeLike rfl rfl rfl (by decide +kernel) ⟨Nat.le_of_ble_eq_true rfl, Nat.le_of_ble_eq_true rfl⟩) (by decide) (uc_1 E _) (T := TX1) (N := 11) rfl rfl hl.1 rfl (Nat.le_of_ble_eq_true rfl) dX1_settle_15 (fun M_2 H locs hw_2 h => ?_)
  have eM_2 := hw_2
  refine lv_aload_n hx hb dX1_settle_18 rfl (lv_at hl 2 rfl) ?_
  refine lv_iload_n hx hb dX1_settle_19 rfl (lv_at hl 1 rfl) ?_
  refine ur_puti C h 1 (by decide) (uc_1 E _) (Cn := RX1) (T := TX1) (N := 11) rfl hin1 tyX1 tyX1_ok nmX1 7 (by decide) (by decide +kernel) rfl rfl rfl (Nat.le_of_ble_eq_true rfl) (us_1_7 E _ _) dX1_settle_20 (fun M_3 H locs eM_3 h => ?_)
  refine lv_aload_n hx hb dX1_settle_23 rfl (lv_at hl 2 rfl) ?_
  refine ur_get C h 1 (by decide) (uc_1 E _) (Cn := RX1) (T := TX1) (N := 11) rfl hin1 8 (by decide) (by decide +kernel) rfl dX1_settle_24 ?_
  refine lv_iload_n hx hb dX1_settle_27 rfl (lv_at hl 0 rfl) ?_
  refine ur_puti C h 7 (by decide) (uc_7 E _) (Cn := RX3) (T := TX3) (N := 6) rfl hin3 tyX3 tyX3_ok nmX3 5 (by decide) (by decide +kernel) rfl rfl rfl (Nat.le_of_ble_eq_true rfl) (us_7_5 E _ _) dX1_settle_28 (fun M_4 H locs eM_4 h => ?_)
  exact ur_vret C h hr hlocks (by subst eM_2; subst eM_3; subst eM_4; rfl) dX1_settle_31
set_option maxHeartbeats 1000000 in
set_option maxRecDepth 100000 in
theorem k_X1_remember (l : Launch) (E : uE) (hI : uI E) (M : uM) (k : Nat) (hk : M.1 1 10 = nI k) (hk8 : k ≤ 8) (hP : xPast M) : Met l yX1_remember wsX1_remember ({ frames := 3, cells := 0, slots := 0, locals := 68 }) (va_Pc [.ref (E.2.1 1)] (uB E M)) (va_Qv (fun u => u = xRem M k) (uP E) (uA E)) 0 0 (uA E) := by
  have hin1 : ∀ w ∈ wsX10, w ∈ wsX1_remember := by decide +kernel
  refine u_start (cc := cX1_remember) (maxL := 3) (ret := none) hI (by decide) rfl (Nat.le_of_ble_eq_true rfl) ?_
  intro p_ e_ s_ m_ bl_ me_ c_ C hr hlocks h ls hl
  have hx := C.1.1
  have hb := C.1.2.1
  have hown : s_.vm.findClass RX1 = some m_.cls := C.1.2.2.2.1
  have hts := C.1.2.2.2.2
  have hl : lv_has ls 3 [(0, .ref (E.2.1 1))] := hl
  refine lv_aload_n hx hb dX1_remember_0 rfl (lv_at hl 0 rfl) ?_
  refine ur_get C h 1 (by decide) (uc_1 E _) (Cn := RX1) (T := TX1) (N := 11) rfl hin1 10 (by decide) (by decide +kernel) rfl dX1_remember_1 ?_
  refine ur_eq (y := nI k) (hk) ?_
  refine lv_bipush (v := 8) hx hb dX1_remember_4 (by decide) ?_
  refine lv_icmp_lt (tgt := 58) hx hb dX1_remember_6 (by decide) (fun c_1 => ?_) (fun c_1 => ?_)
  · skip
    have c_1 : k < 8 := (nI_ltI (a := k) (b := 8) (by omega) (by omega)).mp c_1
    refine lv_aload_n hx hb dX1_remember_58 rfl (lv_at hl 0 rfl) ?_
    refine ur_get C h 1 (by decide) (uc_1 E _) (Cn := RX1) (T := TX1) (N := 11) rfl hin1 9 (by decide) (by decide +kernel) rfl dX1_remember_59 ?_
    refine lv_aload_n hx hb dX1_remember_62 rfl (lv_at hl 0 rfl) ?_
    refine ur_get C h 1 (by decide) (uc_1 E _) (Cn := RX1) (T := TX1) (N := 11) rfl hin1 10 (by decide) (by decide +kernel) rfl dX1_remember_63 ?_
    refine ur_eq (y := nI k) (hk) ?_
    refine ur_aald C h 6 3 (by decide) (uc_6 E _) rfl (k) (by omega) (by decide) dX1_remember_66 ?_
    refine lv_aload_n hx hb dX1_remember_67 rfl (lv_at hl 0 rfl) ?_
    refine ur_get C h 1 (by decide) (uc_1 E _) (Cn := RX1) (T := TX1) (N := 11) rfl hin1 8 (by decide) (by decide +kernel) rfl dX1_remember_68 ?_
    refine ur_callVv C h (k := (M.2.2 6 k)) (As := [.ref (E.2.1 7)]) (rest := []) (k_X3_becomeLike l E hI M (M.2.2 6 k) 7 (hP k (by omega)) uMom_7) (cwV 1 hts gX1_remember_X3_becomeLike rfl rfl rfl (by decide +kernel) ⟨Nat.le_of_ble_eq_true rfl, Nat.le_of_ble_eq_true rfl⟩) (by have := uMom_lt (hP k (by omega)); omega) (uc_m0 (hP k (by omega)) E _) (T := TX3) (N := 6) rfl rfl hl.1 rfl (Nat.le_of_ble_eq_true rfl) dX1_remember_71 (fun M_3 H locs hw_3 h => ?_)
    have eM_3 := hw_3
    refine lv_aload_n hx hb dX1_remember_74 rfl (lv_at hl 0 rfl) ?_
    refine lv_dup hx hb dX1_remember_75 rfl ?_
    refine ur_get C h 1 (by decide) (uc_1 E _) (Cn := RX1) (T := TX1) (N := 11) rfl hin1 10 (by decide) (by decide +kernel) rfl dX1_remember_76 ?_
    refine ur_eq (y := nI k) ((by rw [eM_3, xMomCp_far (by have := uMom_ford (hP k (by omega)); omega)]; exact hk)) ?_
    refine lv_iconst (v := 1) hx hb dX1_remember_79 (by decide) ?_
    refine lv_iadd hx hb dX1_remember_80 ?_
    refine ur_eq (y := nI (k + 1)) (nI_add k 1) ?_
    refine ur_puti C h 1 (by decide) (uc_1 E _) (Cn := RX1) (T := TX1) (N := 11) rfl hin1 tyX1 tyX1_ok nmX1 10 (by decide) (by decide +kernel) rfl rfl rfl (Nat.le_of_ble_eq_true rfl) (us_1_10 E _ _) dX1_remember_81 (fun M_4 H locs eM_4 h => ?_)
    exact ur_vret C h hr hlocks (by subst eM_3; subst eM_4; unfold xRem; rw [if_pos (by omega)]; rfl) dX1_remember_84
  · skip
    have c_1 : ¬ k < 8 := fun z => c_1 ((nI_ltI (a := k) (b := 8) (by omega) (by omega)).mpr z)
    refine lv_aload_n hx hb dX1_remember_9 rfl (lv_at hl 0 rfl) ?_
    refine ur_get C h 1 (by decide) (uc_1 E _) (Cn := RX1) (T := TX1) (N := 11) rfl hin1 9 (by decide) (by decide +kernel) rfl dX1_remember_10 ?_
    refine lv_iconst (v := 0) hx hb dX1_remember_13 (by decide) ?_
    refine ur_aald C h 6 3 (by decide) (uc_6 E _) rfl (0) (by decide) (by decide) dX1_remember_14 ?_
    refine lv_astore_n (lv' := [(1, .ref (E.2.1 (M.2.2 6 0))), (0, .ref (E.2.1 1))]) hx hb dX1_remember_15 rfl hl (by decide) rfl (fun ls hl => ?_)
    refine lv_iconst (v := 1) hx hb dX1_remember_16 (by decide) ?_
    refine lv_istore_n (lv' := [(2, .int 1), (1, .ref (E.2.1 (M.2.2 6 0))), (0, .ref (E.2.1 1))]) hx hb dX1_remember_17 rfl hl (by decide) rfl (fun ls hl => ?_)
    have lp18 : ∀ (n18 : Nat) (i : Nat) (Mi : uM), 7 - i < n18 → i ≤ 7 → Mi = xRow M i → ∀ (H : Heap) (locs : List Loc) (ls : Array Slot), uH E Mi s_ H locs → lv_has ls 3 [(2, .int (nI (1 + i))), (1, .ref (E.2.1 (M.2.2 6 0))), (0, .ref (E.2.1 1))] → W p_ l e_ ({ frames := 3, cells := 0, slots := 0, locals := 68 }) s_ m_ (List.toArray [.ref (E.2.1 1)]) bl_ me_ c_ H locs 0 0 (MQ bl_ (va_Qv (fun u => u = xRem M k) (uP E) (uA E)) (List.toArray [.ref (E.2.1 1)]) s_ 0 0 (uA E)) (F0 m_ 18 ls []) := by
      intro n18
      induction n18 with
      | zero => intro i Mi hms; exact absurd hms (Nat.not_lt_zero _)
      | succ n18 ih18 =>
        intro i Mi hms18 hi hMi H locs ls h hl
        refine lv_iload_n hx hb dX1_remember_18 rfl (lv_at hl 0 rfl) ?_
        refine lv_bipush (v := 8) hx hb dX1_remember_19 (by decide) ?_
        refine lv_icmp_ge (tgt := 44) hx hb dX1_remember_21 (by decide) (fun c_5 => ?_) (fun c_5 => ?_)
        · skip
          have c_5 : 8 ≤ (1 + i) := (nI_leI (a := 8) (b := (1 + i)) (by omega) (by omega)).mp c_5
          have hi7 : i = 7 := by omega
          refine lv_aload_n hx hb dX1_remember_44 rfl (lv_at hl 2 rfl) ?_
          refine ur_get C h 1 (by decide) (uc_1 E _) (Cn := RX1) (T := TX1) (N := 11) rfl hin1 9 (by decide) (by decide +kernel) rfl dX1_remember_45 ?_
          refine lv_bipush (v := 7) hx hb dX1_remember_48 (by decide) ?_
          refine lv_aload_n hx hb dX1_remember_50 rfl (lv_at hl 1 rfl) ?_
          refine ur_aast C h 6 (by decide) (uc_6 E) (7) (by decide) (by decide) (M.2.2 6 0) (by have := uMom_lt (hP 0 (by omega)); omega) (uc_m0 (hP 0 (by omega)) E _) dX1_remember_51 (fun M_6 H locs eM_6 h => ?_)
          refine lv_aload_n hx hb dX1_remember_52 rfl (lv_at hl 2 rfl) ?_
          refine lv_bipush (v := 7) hx hb dX1_remember_53 (by decide) ?_
          refine ur_puti C h 1 (by decide) (uc_1 E _) (Cn := RX1) (T := TX1) (N := 11) rfl hin1 tyX1 tyX1_ok nmX1 10 (by decide) (by decide +kernel) rfl rfl rfl (Nat.le_of_ble_eq_true rfl) (us_1_10 E _ _) dX1_remember_55 (fun M_7 H locs eM_7 h => ?_)
          have hPn : xPast M_7 := by rw [eM_7]; show xPast M_6; rw [eM_6]; exact xSetP_P (by rw [hMi]; exact xRow_P hP (by omega)) (hP 0 (by decide))
          refine lv_aload_n hx hb dX1_remember_58 rfl (lv_at hl 2 rfl) ?_
          refine ur_get C h 1 (by decide) (uc_1 E _) (Cn := RX1) (T := TX1) (N := 11) rfl hin1 9 (by decide) (by decide +kernel) rfl dX1_remember_59 ?_
          refine lv_aload_n hx hb dX1_remember_62 rfl (lv_at hl 2 rfl) ?_
          refine ur_get C h 1 (by decide) (uc_1 E _) (Cn := RX1) (T := TX1) (N := 11) rfl hin1 10 (by decide) (by decide +kernel) rfl dX1_remember_63 ?_
          refine ur_eq (y := nI 7) (by rw [eM_7, u_set1, if_pos rfl, if_pos rfl]; try rfl) ?_
          refine ur_aald C h 6 3 (by decide) (uc_6 E _) rfl (7) (by decide) (by decide) dX1_remember_66 ?_
          refine lv_aload_n hx hb dX1_remember_67 rfl (lv_at hl 2 rfl) ?_
          refine ur_get C h 1 (by decide) (uc_1 E _) (Cn := RX1) (T := TX1) (N := 11) rfl hin1 8 (by decide) (by decide +kernel) rfl dX1_remember_68 ?_
          refine ur_callVv C h (k := (M_7.2.2 6 7)) (As := [.ref (E.2.1 7)]) (rest := []) (k_X3_becomeLike l E hI M_7 (M_7.2.2 6 7) 7 (hPn 7 (by omega)) uMom_7) (cwV 1 hts gX1_remember_X3_becomeLike rfl rfl rfl (by decide +kernel) ⟨Nat.le_of_ble_eq_true rfl, Nat.le_of_ble_eq_true rfl⟩) (by have := uMom_lt (hPn 7 (by omega)); omega) (uc_m0 (hPn 7 (by omega)) E _) (T := TX3) (N := 6) rfl rfl hl.1 rfl (Nat.le_of_ble_eq_true rfl) dX1_remember_71 (fun M_9 H locs hw_9 h => ?_)
          have eM_9 := hw_9
          refine lv_aload_n hx hb dX1_remember_74 rfl (lv_at hl 2 rfl) ?_
          refine lv_dup hx hb dX1_remember_75 rfl ?_
          refine ur_get C h 1 (by decide) (uc_1 E _) (Cn := RX1) (T := TX1) (N := 11) rfl hin1 10 (by decide) (by decide +kernel) rfl dX1_remember_76 ?_
          refine ur_eq (y := nI 7) ((by rw [eM_9, xMomCp_far (by have := uMom_ford (hPn 7 (by omega)); omega)]; exact (by rw [eM_7, u_set1, if_pos rfl, if_pos rfl]; try rfl))) ?_
          refine lv_iconst (v := 1) hx hb dX1_remember_79 (by decide) ?_
          refine lv_iadd hx hb dX1_remember_80 ?_
          refine ur_eq (y := nI (8)) (nI_add 7 1) ?_
          refine ur_puti C h 1 (by decide) (uc_1 E _) (Cn := RX1) (T := TX1) (N := 11) rfl hin1 tyX1 tyX1_ok nmX1 10 (by decide) (by decide +kernel) rfl rfl rfl (Nat.le_of_ble_eq_true rfl) (us_1_10 E _ _) dX1_remember_81 (fun M_10 H locs eM_10 h => ?_)
          exact ur_vret C h hr hlocks (by subst eM_6; subst eM_7; subst eM_9; subst eM_10; subst hi7; subst hMi; unfold xRem; rw [if_neg (by omega)]; rfl) dX1_remember_84
        · skip
          have c_5 : ¬ 8 ≤ (1 + i) := fun z => c_5 ((nI_leI (a := 8) (b := (1 + i)) (by omega) (by omega)).mpr z)
          refine lv_aload_n hx hb dX1_remember_24 rfl (lv_at hl 2 rfl) ?_
          refine ur_get C h 1 (by decide) (uc_1 E _) (Cn := RX1) (T := TX1) (N := 11) rfl hin1 9 (by decide) (by decide +kernel) rfl dX1_remember_25 ?_
          refine lv_iload_n hx hb dX1_remember_28 rfl (lv_at hl 0 rfl) ?_
          refine lv_iconst (v := 1) hx hb dX1_remember_29 (by decide) ?_
          refine lv_isub hx hb dX1_remember_30 ?_
          refine ur_eq (y := nI (i)) ((pk_sub (a := 1 + i) (b := 1) (by omega)).trans (congrArg nI (by omega))) ?_
          refine lv_aload_n hx hb dX1_remember_31 rfl (lv_at hl 2 rfl) ?_
          refine ur_get C h 1 (by decide) (uc_1 E _) (Cn := RX1) (T := TX1) (N := 11) rfl hin1 9 (by decide) (by decide +kernel) rfl dX1_remember_32 ?_
          refine lv_iload_n hx hb dX1_remember_35 rfl (lv_at hl 0 rfl) ?_
          refine ur_aald C h 6 3 (by decide) (uc_6 E _) rfl (1 + i) (by omega) (by decide) dX1_remember_36 ?_
          refine ur_aast C h 6 (by decide) (uc_6 E) (i) (by omega) (by decide) (Mi.2.2 6 (1 + i)) (by have := uMom_lt ((show xPast Mi from by rw [hMi]; exact xRow_P hP (by omega)) (1 + i) (by omega)); omega) (uc_m0 ((show xPast Mi from by rw [hMi]; exact xRow_P hP (by omega)) (1 + i) (by omega)) E _) dX1_remember_37 (fun M_11 H locs eM_11 h => ?_)
          refine lv_iinc (v := nI (1 + i + 1)) (lv' := [(2, .int (nI (1 + i + 1))), (1, .ref (E.2.1 (M.2.2 6 0))), (0, .ref (E.2.1 1))]) hx hb dX1_remember_38 hl (k := 0) rfl (nI_add (1 + i) 1) (by decide) rfl (fun ls hl => ?_)
          refine lv_goto (tgt := 18) hx hb dX1_remember_41 (by decide) ?_
          exact ih18  (i + 1) M_11 (by omega) (by omega) (by rw [eM_11, hMi]; exact xRow_s M) _ _ _ h (lv_sub hl [0, 1, 2] rfl)
    exact lp18 _ 0 M (Nat.lt_succ_self _) (by omega) (xRow_0 M) _ _ _ h (lv_sub hl [0, 1, 2] rfl)
set_option maxHeartbeats 1000000 in
set_option maxRecDepth 100000 in
theorem k_X1_goBack (l : Launch) (E : uE) (hI : uI E) (M : uM) (k : Nat) (hk : M.1 1 10 = nI k) (hk8 : k ≤ 8) (hk0 : 0 < k) (hP : xPast M) : Met l yX1_goBack wsX1_goBack ({ frames := 3, cells := 0, slots := 0, locals := 68 }) (va_Pc [.ref (E.2.1 1)] (uB E M)) (va_Qv (fun u => u = xBack M k) (uP E) (uA E)) 0 0 (uA E) := by
  have hin1 : ∀ w ∈ wsX10, w ∈ wsX1_goBack := by decide +kernel
  refine u_start (cc := cX1_goBack) (maxL := 1) (ret := none) hI (by decide) rfl (Nat.le_of_ble_eq_true rfl) ?_
  intro p_ e_ s_ m_ bl_ me_ c_ C hr hlocks h ls hl
  have hx := C.1.1
  have hb := C.1.2.1
  have hown : s_.vm.findClass RX1 = some m_.cls := C.1.2.2.2.1
  have hts := C.1.2.2.2.2
  have hl : lv_has ls 1 [(0, .ref (E.2.1 1))] := hl
  refine lv_aload_n hx hb dX1_goBack_0 rfl (lv_at hl 0 rfl) ?_
  refine lv_dup hx hb dX1_goBack_1 rfl ?_
  refine ur_get C h 1 (by decide) (uc_1 E _) (Cn := RX1) (T := TX1) (N := 11) rfl hin1 10 (by decide) (by decide +kernel) rfl dX1_goBack_2 ?_
  refine ur_eq (y := nI k) (hk) ?_
  refine lv_iconst (v := 1) hx hb dX1_goBack_5 (by decide) ?_
  refine lv_isub hx hb dX1_goBack_6 ?_
  refine ur_eq (y := nI (k - 1)) ((pk_sub (a := k) (b := 1) (by omega)).trans (congrArg nI (by omega))) ?_
  refine ur_puti C h 1 (by decide) (uc_1 E _) (Cn := RX1) (T := TX1) (N := 11) rfl hin1 tyX1 tyX1_ok nmX1 10 (by decide) (by decide +kernel) rfl rfl rfl (Nat.le_of_ble_eq_true rfl) (us_1_10 E _ _) dX1_goBack_7 (fun M_1 H locs eM_1 h => ?_)
  refine lv_aload_n hx hb dX1_goBack_10 rfl (lv_at hl 0 rfl) ?_
  refine ur_get C h 1 (by decide) (uc_1 E _) (Cn := RX1) (T := TX1) (N := 11) rfl hin1 8 (by decide) (by decide +kernel) rfl dX1_goBack_11 ?_
  refine lv_aload_n hx hb dX1_goBack_14 rfl (lv_at hl 0 rfl) ?_
  refine ur_get C h 1 (by decide) (uc_1 E _) (Cn := RX1) (T := TX1) (N := 11) rfl hin1 9 (by decide) (by decide +kernel) rfl dX1_goBack_15 ?_
  refine lv_aload_n hx hb dX1_goBack_18 rfl (lv_at hl 0 rfl) ?_
  refine ur_get C h 1 (by decide) (uc_1 E _) (Cn := RX1) (T := TX1) (N := 11) rfl hin1 10 (by decide) (by decide +kernel) rfl dX1_goBack_19 ?_
  refine ur_eq (y := nI (k - 1)) (by rw [eM_1, u_set1, if_pos rfl, if_pos rfl]; try rfl) ?_
  refine ur_aald C h 6 3 (by decide) (uc_6 E _) rfl (k - 1) (by omega) (by decide) dX1_goBack_22 ?_
  refine ur_callVv C h (k := 7) (As := [.ref (E.2.1 (M_1.2.2 6 (k - 1)))]) (rest := []) (k_X3_becomeLike l E hI M_1 7 (M_1.2.2 6 (k - 1)) uMom_7 ((show xPast M_1 from by rw [eM_1]; exact hP) (k - 1) (by omega))) (cwV 1 hts gX1_goBack_X3_becomeLike rfl rfl rfl (by decide +kernel) ⟨Nat.le_of_ble_eq_true rfl, Nat.le_of_ble_eq_true rfl⟩) (by decide) (uc_7 E _) (T := TX3) (N := 6) rfl rfl hl.1 rfl (Nat.le_of_ble_eq_true rfl) dX1_goBack_23 (fun M_3 H locs hw_3 h => ?_)
  have eM_3 := hw_3
  exact ur_vret C h hr hlocks (by subst eM_1; subst eM_3; rfl) dX1_goBack_26
