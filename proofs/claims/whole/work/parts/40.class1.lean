set_option maxHeartbeats 4000000 in
set_option maxRecDepth 100000 in
theorem k_X6_isIn (l : Launch) (E : uE) (hI : uI E) (M : uM) (x0 x1 x2 : Int32) : Met l yX6_isIn wsX6_isIn ({ frames := 0, cells := 0, slots := 0, locals := 0 }) (va_Pc [.int x0, .int x1, .int x2] (uB E M)) (va_Qi (fun r u => M = u ∧ r = if x1.toInt ≤ x0.toInt ∧ x0.toInt ≤ x2.toInt then 1 else 0) (uP E) (uA E)) 0 0 (uA E) := by
  refine u_start (cc := cX6_isIn) (maxL := 3) (ret := (some .boolean)) hI (by decide) rfl (Nat.le_of_ble_eq_true rfl) ?_
  intro p_ e_ s_ m_ bl_ me_ c_ C hr hlocks h ls hl
  have hx := C.1.1
  have hb := C.1.2.1
  have hown : s_.vm.findClass RX6 = some m_.cls := C.1.2.2.2.1
  have hts := C.1.2.2.2.2
  have hl : lv_has ls 3 [(0, .int x0), (1, .int x1), (2, .int x2)] := hl
  refine lv_iload_n hx hb dX6_isIn_0 rfl (lv_at hl 0 rfl) ?_
  refine lv_iload_n hx hb dX6_isIn_1 rfl (lv_at hl 1 rfl) ?_
  refine lv_icmp_lt (tgt := 14) hx hb dX6_isIn_2 (by decide) (fun c_1 => ?_) (fun c_1 => ?_)
  · skip
    refine lv_iconst (v := 0) hx hb dX6_isIn_14 (by decide) ?_
    exact ur_zret C h hr (by rfl) hlocks (⟨rfl, (if_neg (by simp only [Int64.lt_iff_toInt_lt, Int64.le_iff_toInt_le, Int32.lt_iff_toInt_lt, Int32.le_iff_toInt_le, Int.not_lt, Int.not_le] at c_1; omega)).symm⟩) dX6_isIn_15
  · skip
    refine lv_iload_n hx hb dX6_isIn_5 rfl (lv_at hl 0 rfl) ?_
    refine lv_iload_n hx hb dX6_isIn_6 rfl (lv_at hl 2 rfl) ?_
    refine lv_icmp_gt (tgt := 14) hx hb dX6_isIn_7 (by decide) (fun c_2 => ?_) (fun c_2 => ?_)
    · skip
      refine lv_iconst (v := 0) hx hb dX6_isIn_14 (by decide) ?_
      exact ur_zret C h hr (by rfl) hlocks (⟨rfl, (if_neg (by simp only [Int64.lt_iff_toInt_lt, Int64.le_iff_toInt_le, Int32.lt_iff_toInt_lt, Int32.le_iff_toInt_le, Int.not_lt, Int.not_le] at c_1 c_2; omega)).symm⟩) dX6_isIn_15
    · skip
      refine lv_iconst (v := 1) hx hb dX6_isIn_10 (by decide) ?_
      refine lv_goto (tgt := 15) hx hb dX6_isIn_11 (by decide) ?_
      exact ur_zret C h hr (by rfl) hlocks (⟨rfl, (if_pos (by simp only [Int64.lt_iff_toInt_lt, Int64.le_iff_toInt_le, Int32.lt_iff_toInt_lt, Int32.le_iff_toInt_le, Int.not_lt, Int.not_le] at c_1 c_2; omega)).symm⟩) dX6_isIn_15
set_option maxHeartbeats 4000000 in
set_option maxRecDepth 100000 in
theorem k_X6_has (l : Launch) (E : uE) (hI : uI E) (M : uM) (x0 : Int32) (k : Nat) : Met l yX6_has wsX6_has ({ frames := 0, cells := 0, slots := 0, locals := 0 }) (va_Pc [.int x0, .int (nI k)] (uB E M)) (va_Qi (fun r u => M = u ∧ r = if ubit x0 k = true then 1 else 0) (uP E) (uA E)) 0 0 (uA E) := by
  refine u_start (cc := cX6_has) (maxL := 2) (ret := (some .boolean)) hI (by decide) rfl (Nat.le_of_ble_eq_true rfl) ?_
  intro p_ e_ s_ m_ bl_ me_ c_ C hr hlocks h ls hl
  have hx := C.1.1
  have hb := C.1.2.1
  have hown : s_.vm.findClass RX6 = some m_.cls := C.1.2.2.2.1
  have hts := C.1.2.2.2.2
  have hl : lv_has ls 2 [(0, .int x0), (1, .int (nI k))] := hl
  refine lv_iload_n hx hb dX6_has_0 rfl (lv_at hl 0 rfl) ?_
  refine lv_iload_n hx hb dX6_has_1 rfl (lv_at hl 1 rfl) ?_
  refine lv_ishr hx hb dX6_has_2 ?_
  refine lv_iconst (v := 1) hx hb dX6_has_3 (by decide) ?_
  refine lv_iand hx hb dX6_has_4 ?_
  refine lv_iconst (v := 1) hx hb dX6_has_5 (by decide) ?_
  refine lv_icmp_ne (tgt := 13) hx hb dX6_has_6 (by decide) (fun c_1 => ?_) (fun c_1 => ?_)
  · skip
    refine lv_iconst (v := 0) hx hb dX6_has_13 (by decide) ?_
    exact ur_zret C h hr (by rfl) hlocks (⟨rfl, (if_neg (fun z => c_1 (of_decide_eq_true z))).symm⟩) dX6_has_14
  · skip
    refine lv_iconst (v := 1) hx hb dX6_has_9 (by decide) ?_
    refine lv_goto (tgt := 14) hx hb dX6_has_10 (by decide) ?_
    exact ur_zret C h hr (by rfl) hlocks (⟨rfl, (if_pos (decide_eq_true c_1)).symm⟩) dX6_has_14
set_option maxHeartbeats 4000000 in
set_option maxRecDepth 100000 in
theorem k_X6_isSpeaker (l : Launch) (E : uE) (hI : uI E) (M : uM) (x0 : Int32) (n : Nat) (hn : M.1 1 0 = nI n) (hn6 : n ≤ 6) : Met l yX6_isSpeaker wsX6_isSpeaker ({ frames := 1, cells := 0, slots := 0, locals := 22 }) (va_Pc [.ref (E.2.1 0), .int x0] (uB E M)) (va_Qi (fun r u => M = u ∧ r = if 0 ≤ x0.toInt ∧ x0.toInt < n then 1 else 0) (uP E) (uA E)) 0 0 (uA E) := by
  have hin1 : ∀ w ∈ wsX10, w ∈ wsX6_isSpeaker := by decide +kernel
  have hin6 : ∀ w ∈ wsX60, w ∈ wsX6_isSpeaker := by decide +kernel
  refine u_start (cc := cX6_isSpeaker) (maxL := 2) (ret := (some .boolean)) hI (by decide) rfl (Nat.le_of_ble_eq_true rfl) ?_
  intro p_ e_ s_ m_ bl_ me_ c_ C hr hlocks h ls hl
  have hx := C.1.1
  have hb := C.1.2.1
  have hown : s_.vm.findClass RX6 = some m_.cls := C.1.2.2.2.1
  have hts := C.1.2.2.2.2
  have hl : lv_has ls 2 [(0, .ref (E.2.1 0)), (1, .int x0)] := hl
  refine lv_iload_n hx hb dX6_isSpeaker_0 rfl (lv_at hl 1 rfl) ?_
  refine lv_iconst (v := 0) hx hb dX6_isSpeaker_1 (by decide) ?_
  refine lv_aload_n hx hb dX6_isSpeaker_2 rfl (lv_at hl 0 rfl) ?_
  refine ur_get C h 0 (by decide) (uc_0 E _) (Cn := RX6) (T := TX6) (N := 6) rfl hin6 0 (by decide) (by decide +kernel) rfl dX6_isSpeaker_3 ?_
  refine ur_get C h 1 (by decide) (uc_1 E _) (Cn := RX1) (T := TX1) (N := 11) rfl hin1 0 (by decide) (by decide +kernel) rfl dX6_isSpeaker_6 ?_
  refine ur_eq (y := nI n) (hn) ?_
  refine lv_iconst (v := 1) hx hb dX6_isSpeaker_9 (by decide) ?_
  refine lv_isub hx hb dX6_isSpeaker_10 ?_
  refine ur_callSi C h (As := [.int x0, .int 0, .int ((nI n) - 1)]) (rest := []) (k_X6_isIn l E hI M x0 0 ((nI n) - 1)) (va_cwS 3 hts gX6_isSpeaker_X6_isIn rfl rfl rfl (by decide +kernel) ⟨Nat.le_of_ble_eq_true rfl, Nat.le_of_ble_eq_true rfl⟩) rfl hl.1 rfl (Nat.le_of_ble_eq_true rfl) dX6_isSpeaker_11 (fun r_1 M_2 H locs hw_2 h => ?_)
  obtain ⟨hu, er_1⟩ := hw_2
  subst hu
  have er_1 : r_1 = if 0 ≤ x0.toInt ∧ x0.toInt ≤ ((nI n) - 1).toInt then 1 else 0 := u_in32 (x := x0.toInt) rfl rfl rfl er_1
  exact ur_zret C h hr (by rw [er_1]; exact uz_nar) hlocks (⟨rfl, by rw [er_1]; refine u_ifc ?_; rw [u_pred hn6]; omega⟩) dX6_isSpeaker_14
set_option maxHeartbeats 4000000 in
set_option maxRecDepth 100000 in
theorem k_X6_isWord (l : Launch) (E : uE) (hI : uI E) (M : uM) (x0 : Int32) (n : Nat) (hn : M.1 1 4 = nI n) (hn6 : n ≤ 6) : Met l yX6_isWord wsX6_isWord ({ frames := 1, cells := 0, slots := 0, locals := 22 }) (va_Pc [.ref (E.2.1 0), .int x0] (uB E M)) (va_Qi (fun r u => M = u ∧ r = if 0 ≤ x0.toInt ∧ x0.toInt < n then 1 else 0) (uP E) (uA E)) 0 0 (uA E) := by
  have hin1 : ∀ w ∈ wsX10, w ∈ wsX6_isWord := by decide +kernel
  have hin6 : ∀ w ∈ wsX60, w ∈ wsX6_isWord := by decide +kernel
  refine u_start (cc := cX6_isWord) (maxL := 2) (ret := (some .boolean)) hI (by decide) rfl (Nat.le_of_ble_eq_true rfl) ?_
  intro p_ e_ s_ m_ bl_ me_ c_ C hr hlocks h ls hl
  have hx := C.1.1
  have hb := C.1.2.1
  have hown : s_.vm.findClass RX6 = some m_.cls := C.1.2.2.2.1
  have hts := C.1.2.2.2.2
  have hl : lv_has ls 2 [(0, .ref (E.2.1 0)), (1, .int x0)] := hl
  refine lv_iload_n hx hb dX6_isWord_0 rfl (lv_at hl 1 rfl) ?_
  refine lv_iconst (v := 0) hx hb dX6_isWord_1 (by decide) ?_
  refine lv_aload_n hx hb dX6_isWord_2 rfl (lv_at hl 0 rfl) ?_
  refine ur_get C h 0 (by decide) (uc_0 E _) (Cn := RX6) (T := TX6) (N := 6) rfl hin6 0 (by decide) (by decide +kernel) rfl dX6_isWord_3 ?_
  refine ur_get C h 1 (by decide) (uc_1 E _) (Cn := RX1) (T := TX1) (N := 11) rfl hin1 4 (by decide) (by decide +kernel) rfl dX6_isWord_6 ?_
  refine ur_eq (y := nI n) (hn) ?_
  refine lv_iconst (v := 1) hx hb dX6_isWord_9 (by decide) ?_
  refine lv_isub hx hb dX6_isWord_10 ?_
  refine ur_callSi C h (As := [.int x0, .int 0, .int ((nI n) - 1)]) (rest := []) (k_X6_isIn l E hI M x0 0 ((nI n) - 1)) (va_cwS 3 hts gX6_isWord_X6_isIn rfl rfl rfl (by decide +kernel) ⟨Nat.le_of_ble_eq_true rfl, Nat.le_of_ble_eq_true rfl⟩) rfl hl.1 rfl (Nat.le_of_ble_eq_true rfl) dX6_isWord_11 (fun r_1 M_2 H locs hw_2 h => ?_)
  obtain ⟨hu, er_1⟩ := hw_2
  subst hu
  have er_1 : r_1 = if 0 ≤ x0.toInt ∧ x0.toInt ≤ ((nI n) - 1).toInt then 1 else 0 := u_in32 (x := x0.toInt) rfl rfl rfl er_1
  exact ur_zret C h hr (by rw [er_1]; exact uz_nar) hlocks (⟨rfl, by rw [er_1]; refine u_ifc ?_; rw [u_pred hn6]; omega⟩) dX6_isWord_14
set_option maxHeartbeats 4000000 in
set_option maxRecDepth 100000 in
theorem k_X6_isSheet (l : Launch) (E : uE) (hI : uI E) (M : uM) (x0 : Int32) : Met l yX6_isSheet wsX6_isSheet ({ frames := 1, cells := 0, slots := 0, locals := 22 }) (va_Pc [.int x0] (uB E M)) (va_Qi (fun r u => M = u ∧ r = if 0 ≤ x0.toInt ∧ x0.toInt ≤ 3 then 1 else 0) (uP E) (uA E)) 0 0 (uA E) := by
  refine u_start (cc := cX6_isSheet) (maxL := 1) (ret := (some .boolean)) hI (by decide) rfl (Nat.le_of_ble_eq_true rfl) ?_
  intro p_ e_ s_ m_ bl_ me_ c_ C hr hlocks h ls hl
  have hx := C.1.1
  have hb := C.1.2.1
  have hown : s_.vm.findClass RX6 = some m_.cls := C.1.2.2.2.1
  have hts := C.1.2.2.2.2
  have hl : lv_has ls 1 [(0, .int x0)] := hl
  refine lv_iload_n hx hb dX6_isSheet_0 rfl (lv_at hl 0 rfl) ?_
  refine lv_iconst (v := 0) hx hb dX6_isSheet_1 (by decide) ?_
  refine lv_iconst (v := 3) hx hb dX6_isSheet_2 (by decide) ?_
  refine ur_callSi C h (As := [.int x0, .int 0, .int 3]) (rest := []) (k_X6_isIn l E hI M x0 0 3) (va_cwS 3 hts gX6_isSheet_X6_isIn rfl rfl rfl (by decide +kernel) ⟨Nat.le_of_ble_eq_true rfl, Nat.le_of_ble_eq_true rfl⟩) rfl hl.1 rfl (Nat.le_of_ble_eq_true rfl) dX6_isSheet_3 (fun r_1 M_2 H locs hw_2 h => ?_)
  obtain ⟨hu, er_1⟩ := hw_2
  subst hu
  have er_1 : r_1 = if 0 ≤ x0.toInt ∧ x0.toInt ≤ 3 then 1 else 0 := u_in32 (x := x0.toInt) rfl rfl rfl er_1
  exact ur_zret C h hr (by rw [er_1]; exact uz_nar) hlocks (⟨rfl, er_1⟩) dX6_isSheet_6
set_option maxHeartbeats 4000000 in
set_option maxRecDepth 100000 in
theorem k_X1_hearsIn (l : Launch) (E : uE) (hI : uI E) (M : uM) (x1 : Int32) (ht : ¬ M.1 1 7 = 0) : Met l yX1_hearsIn wsX1_hearsIn ({ frames := 1, cells := 0, slots := 0, locals := 21 }) (va_Pc [.ref (E.2.1 1), .int x1] (uB E M)) (va_Qi (fun r u => M = u ∧ r = xHears (M.1 1 6) (M.1 1 7) x1) (uP E) (uA E)) 0 0 (uA E) := by
  have hin1 : ∀ w ∈ wsX10, w ∈ wsX1_hearsIn := by decide +kernel
  refine u_start (cc := cX1_hearsIn) (maxL := 2) (ret := (some .int)) hI (by decide) rfl (Nat.le_of_ble_eq_true rfl) ?_
  intro p_ e_ s_ m_ bl_ me_ c_ C hr hlocks h ls hl
  have hx := C.1.1
  have hb := C.1.2.1
  have hown : s_.vm.findClass RX1 = some m_.cls := C.1.2.2.2.1
  have hts := C.1.2.2.2.2
  have hl : lv_has ls 2 [(0, .ref (E.2.1 1)), (1, .int x1)] := hl
  refine lv_iconst (v := 0) hx hb dX1_hearsIn_0 (by decide) ?_
  refine lv_aload_n hx hb dX1_hearsIn_1 rfl (lv_at hl 0 rfl) ?_
  refine ur_get C h 1 (by decide) (uc_1 E _) (Cn := RX1) (T := TX1) (N := 11) rfl hin1 6 (by decide) (by decide +kernel) rfl dX1_hearsIn_2 ?_
  refine lv_iload_n hx hb dX1_hearsIn_5 rfl (lv_at hl 1 rfl) ?_
  refine lv_aload_n hx hb dX1_hearsIn_6 rfl (lv_at hl 0 rfl) ?_
  refine ur_get C h 1 (by decide) (uc_1 E _) (Cn := RX1) (T := TX1) (N := 11) rfl hin1 7 (by decide) (by decide +kernel) rfl dX1_hearsIn_7 ?_
  refine lv_idiv hx hb dX1_hearsIn_10 (by exact ht) ?_
  refine lv_isub hx hb dX1_hearsIn_11 ?_
  refine va_mmax hx hb (by rw [C.1.2.2.1]; exact hl.1.symm) hown (hts (.methodLink RX1 76 Lib.Math.max.name) (by decide +kernel)) (hts (.static Lib.Math.max.name) (by decide +kernel)) (hts (.initialized "java/lang/Math") (by decide +kernel)) (hts (.code Lib.Math.max.name Lib.Math.max.code 2 (some .int)) (by decide +kernel)) (Nat.le_of_ble_eq_true rfl) (Nat.le_of_ble_eq_true rfl) (Nat.zero_le _) (Nat.zero_le _) dX1_hearsIn_12 ?_
  exact ur_iret C h hr hlocks (⟨rfl, rfl⟩) dX1_hearsIn_15
set_option maxHeartbeats 4000000 in
set_option maxRecDepth 100000 in
theorem k_X1_skillByKind (l : Launch) (E : uE) (hI : uI E) (M : uM) (kd pl : Int32) (bt : Bool) : Met l yX1_skillByKind wsX1_skillByKind ({ frames := 1, cells := 0, slots := 0, locals := 21 }) (va_Pc [.int kd, .int pl, .int (if bt = true then 1 else 0)] (uB E M)) (va_Qi (fun r u => M = u ∧ r = xBy kd pl bt) (uP E) (uA E)) 0 0 (uA E) := by
  refine u_start (cc := cX1_skillByKind) (maxL := 4) (ret := (some .int)) hI (by decide) rfl (Nat.le_of_ble_eq_true rfl) ?_
  intro p_ e_ s_ m_ bl_ me_ c_ C hr hlocks h ls hl
  have hx := C.1.1
  have hb := C.1.2.1
  have hown : s_.vm.findClass RX1 = some m_.cls := C.1.2.2.2.1
  have hts := C.1.2.2.2.2
  have hl : lv_has ls 4 [(0, .int kd), (1, .int pl), (2, .int (if bt = true then 1 else 0))] := hl
  refine lv_iload_n hx hb dX1_skillByKind_0 rfl (lv_at hl 2 rfl) ?_
  refine lv_if_eq (tgt := 10) hx hb dX1_skillByKind_1 (by decide) (fun c_1 => ?_) (fun c_1 => ?_)
  · skip
    have c_1 : ¬ (bt = true) := uz_f rfl c_1
    refine lv_iload_n hx hb dX1_skillByKind_10 rfl (lv_at hl 1 rfl) ?_
    refine lv_istore_n (lv' := [(3, .int pl), (0, .int kd), (1, .int pl), (2, .int (if bt = true then 1 else 0))]) hx hb dX1_skillByKind_11 rfl hl (by decide) rfl (fun ls hl => ?_)
    refine lv_iload_n hx hb dX1_skillByKind_12 rfl (lv_at hl 1 rfl) ?_
    rcases Decidable.em (kd = 1) with c_2 | c_2
    · skip
      refine lv_tableIn (off := 31) (tgt := 44) hx hb dX1_skillByKind_13 (by rw [c_2]; decide) (by rw [c_2]; decide) (by rw [c_2]; rfl) (by decide) ?_
      refine lv_iconst (v := 0) hx hb dX1_skillByKind_44 (by decide) ?_
      refine lv_iload_n hx hb dX1_skillByKind_45 rfl (lv_at hl 2 rfl) ?_
      refine lv_iconst (v := 2) hx hb dX1_skillByKind_46 (by decide) ?_
      refine lv_isub hx hb dX1_skillByKind_47 ?_
      refine va_mmax hx hb (by rw [C.1.2.2.1]; exact hl.1.symm) hown (hts (.methodLink RX1 76 Lib.Math.max.name) (by decide +kernel)) (hts (.static Lib.Math.max.name) (by decide +kernel)) (hts (.initialized "java/lang/Math") (by decide +kernel)) (hts (.code Lib.Math.max.name Lib.Math.max.code 2 (some .int)) (by decide +kernel)) (Nat.le_of_ble_eq_true rfl) (Nat.le_of_ble_eq_true rfl) (Nat.zero_le _) (Nat.zero_le _) dX1_skillByKind_48 ?_
      exact ur_iret C h hr hlocks (⟨rfl, by unfold xBy; simp [c_1, c_2]⟩) dX1_skillByKind_51
    rcases Decidable.em (kd = 2) with c_3 | c_3
    · skip
      refine lv_tableIn (off := 39) (tgt := 52) hx hb dX1_skillByKind_13 (by rw [c_3]; decide) (by rw [c_3]; decide) (by rw [c_3]; rfl) (by decide) ?_
      refine lv_iload_n hx hb dX1_skillByKind_52 rfl (lv_at hl 0 rfl) ?_
      exact ur_iret C h hr hlocks (⟨rfl, by unfold xBy; simp [c_1, c_2, c_3]⟩) dX1_skillByKind_53
    rcases Decidable.em (kd = 3) with c_4 | c_4
    · skip
      refine lv_tableIn (off := 47) (tgt := 60) hx hb dX1_skillByKind_13 (by rw [c_4]; decide) (by rw [c_4]; decide) (by rw [c_4]; rfl) (by decide) ?_
      refine lv_iload_n hx hb dX1_skillByKind_60 rfl (lv_at hl 2 rfl) ?_
      exact ur_iret C h hr hlocks (⟨rfl, by unfold xBy; simp [c_1, c_2, c_3, c_4]⟩) dX1_skillByKind_61
    rcases Decidable.em (kd = 4) with c_5 | c_5
    · skip
      refine lv_tableIn (off := 41) (tgt := 54) hx hb dX1_skillByKind_13 (by rw [c_5]; decide) (by rw [c_5]; decide) (by rw [c_5]; rfl) (by decide) ?_
      refine lv_iconst (v := 5) hx hb dX1_skillByKind_54 (by decide) ?_
      refine lv_iload_n hx hb dX1_skillByKind_55 rfl (lv_at hl 0 rfl) ?_
      refine va_mmax hx hb (by rw [C.1.2.2.1]; exact hl.1.symm) hown (hts (.methodLink RX1 76 Lib.Math.max.name) (by decide +kernel)) (hts (.static Lib.Math.max.name) (by decide +kernel)) (hts (.initialized "java/lang/Math") (by decide +kernel)) (hts (.code Lib.Math.max.name Lib.Math.max.code 2 (some .int)) (by decide +kernel)) (Nat.le_of_ble_eq_true rfl) (Nat.le_of_ble_eq_true rfl) (Nat.zero_le _) (Nat.zero_le _) dX1_skillByKind_56 ?_
      exact ur_iret C h hr hlocks (⟨rfl, by unfold xBy; simp [c_1, c_2, c_3, c_4, c_5]⟩) dX1_skillByKind_59
    have hsw_6 : kd.toInt < 1 ∨ 4 < kd.toInt := uo_sw 1 4 (fun k hk1 hk2 => by
        have hk : k = 1 ∨ k = 2 ∨ k = 3 ∨ k = 4 := by omega
        rcases hk with rfl | rfl | rfl | rfl
        · exact lv_neT c_2 (by decide)
        · exact lv_neT c_3 (by decide)
        · exact lv_neT c_4 (by decide)
        · exact lv_neT c_5 (by decide))
    refine lv_tableOut (tgt := 60) hx hb dX1_skillByKind_13 hsw_6 (by decide) ?_
    refine lv_iload_n hx hb dX1_skillByKind_60 rfl (lv_at hl 2 rfl) ?_
    exact ur_iret C h hr hlocks (⟨rfl, by unfold xBy; simp [c_1, c_2, c_3, c_4, c_5]⟩) dX1_skillByKind_61
  · skip
    have c_1 : bt = true := uz_t rfl c_1
    refine lv_iload_n hx hb dX1_skillByKind_4 rfl (lv_at hl 1 rfl) ?_
    refine lv_iconst (v := 3) hx hb dX1_skillByKind_5 (by decide) ?_
    refine lv_iadd hx hb dX1_skillByKind_6 ?_
    refine lv_goto (tgt := 11) hx hb dX1_skillByKind_7 (by decide) ?_
    refine lv_istore_n (lv' := [(3, .int (pl + 3)), (0, .int kd), (1, .int pl), (2, .int (if bt = true then 1 else 0))]) hx hb dX1_skillByKind_11 rfl hl (by decide) rfl (fun ls hl => ?_)
    refine lv_iload_n hx hb dX1_skillByKind_12 rfl (lv_at hl 1 rfl) ?_
    rcases Decidable.em (kd = 1) with c_7 | c_7
    · skip
      refine lv_tableIn (off := 31) (tgt := 44) hx hb dX1_skillByKind_13 (by rw [c_7]; decide) (by rw [c_7]; decide) (by rw [c_7]; rfl) (by decide) ?_
      refine lv_iconst (v := 0) hx hb dX1_skillByKind_44 (by decide) ?_
      refine lv_iload_n hx hb dX1_skillByKind_45 rfl (lv_at hl 2 rfl) ?_
      refine lv_iconst (v := 2) hx hb dX1_skillByKind_46 (by decide) ?_
      refine lv_isub hx hb dX1_skillByKind_47 ?_
      refine va_mmax hx hb (by rw [C.1.2.2.1]; exact hl.1.symm) hown (hts (.methodLink RX1 76 Lib.Math.max.name) (by decide +kernel)) (hts (.static Lib.Math.max.name) (by decide +kernel)) (hts (.initialized "java/lang/Math") (by decide +kernel)) (hts (.code Lib.Math.max.name Lib.Math.max.code 2 (some .int)) (by decide +kernel)) (Nat.le_of_ble_eq_true rfl) (Nat.le_of_ble_eq_true rfl) (Nat.zero_le _) (Nat.zero_le _) dX1_skillByKind_48 ?_
      exact ur_iret C h hr hlocks (⟨rfl, by unfold xBy; simp [c_1, c_7]⟩) dX1_skillByKind_51
    rcases Decidable.em (kd = 2) with c_8 | c_8
    · skip
      refine lv_tableIn (off := 39) (tgt := 52) hx hb dX1_skillByKind_13 (by rw [c_8]; decide) (by rw [c_8]; decide) (by rw [c_8]; rfl) (by decide) ?_
      refine lv_iload_n hx hb dX1_skillByKind_52 rfl (lv_at hl 0 rfl) ?_
      exact ur_iret C h hr hlocks (⟨rfl, by unfold xBy; simp [c_1, c_7, c_8]⟩) dX1_skillByKind_53
    rcases Decidable.em (kd = 3) with c_9 | c_9
    · skip
      refine lv_tableIn (off := 47) (tgt := 60) hx hb dX1_skillByKind_13 (by rw [c_9]; decide) (by rw [c_9]; decide) (by rw [c_9]; rfl) (by decide) ?_
      refine lv_iload_n hx hb dX1_skillByKind_60 rfl (lv_at hl 2 rfl) ?_
      exact ur_iret C h hr hlocks (⟨rfl, by unfold xBy; simp [c_1, c_7, c_8, c_9]⟩) dX1_skillByKind_61
    rcases Decidable.em (kd = 4) with c_10 | c_10
    · skip
      refine lv_tableIn (off := 41) (tgt := 54) hx hb dX1_skillByKind_13 (by rw [c_10]; decide) (by rw [c_10]; decide) (by rw [c_10]; rfl) (by decide) ?_
      refine lv_iconst (v := 5) hx hb dX1_skillByKind_54 (by decide) ?_
      refine lv_iload_n hx hb dX1_skillByKind_55 rfl (lv_at hl 0 rfl) ?_
      refine va_mmax hx hb (by rw [C.1.2.2.1]; exact hl.1.symm) hown (hts (.methodLink RX1 76 Lib.Math.max.name) (by decide +kernel)) (hts (.static Lib.Math.max.name) (by decide +kernel)) (hts (.initialized "java/lang/Math") (by decide +kernel)) (hts (.code Lib.Math.max.name Lib.Math.max.code 2 (some .int)) (by decide +kernel)) (Nat.le_of_ble_eq_true rfl) (Nat.le_of_ble_eq_true rfl) (Nat.zero_le _) (Nat.zero_le _) dX1_skillByKind_56 ?_
      exact ur_iret C h hr hlocks (⟨rfl, by unfold xBy; simp [c_1, c_7, c_8, c_9, c_10]⟩) dX1_skillByKind_59
    have hsw_11 : kd.toInt < 1 ∨ 4 < kd.toInt := uo_sw 1 4 (fun k hk1 hk2 => by
        have hk : k = 1 ∨ k = 2 ∨ k = 3 ∨ k = 4 := by omega
        rcases hk with rfl | rfl | rfl | rfl
        · exact lv_neT c_7 (by decide)
        · exact lv_neT c_8 (by decide)
        · exact lv_neT c_9 (by decide)
        · exact lv_neT c_10 (by decide))
    refine lv_tableOut (tgt := 60) hx hb dX1_skillByKind_13 hsw_11 (by decide) ?_
    refine lv_iload_n hx hb dX1_skillByKind_60 rfl (lv_at hl 2 rfl) ?_
    exact ur_iret C h hr hlocks (⟨rfl, by unfold xBy; simp [c_1, c_7, c_8, c_9, c_10]⟩) dX1_skillByKind_61
set_option maxHeartbeats 4000000 in
set_option maxRecDepth 100000 in
theorem k_X1_skillAt (l : Launch) (E : uE) (hI : uI E) (M : uM) (p so : Nat) (tg wn : Int32) (hp : p < 6) (hs : so < 6) : Met l yX1_skillAt wsX1_skillAt ({ frames := 2, cells := 0, slots := 0, locals := 44 }) (va_Pc [.ref (E.2.1 1), .int (nI p), .int (nI so), .int tg, .int wn] (uB E M)) (va_Qi (fun r u => M = u ∧ r = xSk M p wn tg so) (uP E) (uA E)) 0 0 (uA E) := by
  have hin1 : ∀ w ∈ wsX10, w ∈ wsX1_skillAt := by decide +kernel
  refine u_start (cc := cX1_skillAt) (maxL := 6) (ret := (some .int)) hI (by decide) rfl (Nat.le_of_ble_eq_true rfl) ?_
  intro p_ e_ s_ m_ bl_ me_ c_ C hr hlocks h ls hl
  have hx := C.1.1
  have hb := C.1.2.1
  have hown : s_.vm.findClass RX1 = some m_.cls := C.1.2.2.2.1
  have hts := C.1.2.2.2.2
  have hl : lv_has ls 6 [(0, .ref (E.2.1 1)), (1, .int (nI p)), (2, .int (nI so)), (3, .int tg), (4, .int wn)] := hl
  refine lv_aload_n hx hb dX1_skillAt_0 rfl (lv_at hl 0 rfl) ?_
  refine ur_get C h 1 (by decide) (uc_1 E _) (Cn := RX1) (T := TX1) (N := 11) rfl hin1 1 (by decide) (by decide +kernel) rfl dX1_skillAt_1 ?_
  refine lv_iload_n hx hb dX1_skillAt_4 rfl (lv_at hl 1 rfl) ?_
  refine ur_iald C h 2 (by decide) (uc_2 E _) (p) (by omega) (by decide) dX1_skillAt_5 ?_
  refine lv_iconst (v := 3) hx hb dX1_skillAt_6 (by decide) ?_
  refine lv_icmp_ne (tgt := 12) hx hb dX1_skillAt_7 (by decide) (fun c_1 => ?_) (fun c_1 => ?_)
  · skip
    refine lv_aload_n hx hb dX1_skillAt_12 rfl (lv_at hl 0 rfl) ?_
    refine ur_get C h 1 (by decide) (uc_1 E _) (Cn := RX1) (T := TX1) (N := 11) rfl hin1 1 (by decide) (by decide +kernel) rfl dX1_skillAt_13 ?_
    refine lv_iload_n hx hb dX1_skillAt_16 rfl (lv_at hl 1 rfl) ?_
    refine ur_iald C h 2 (by decide) (uc_2 E _) (p) (by omega) (by decide) dX1_skillAt_17 ?_
    refine lv_aload_n hx hb dX1_skillAt_18 rfl (lv_at hl 0 rfl) ?_
    refine ur_get C h 1 (by decide) (uc_1 E _) (Cn := RX1) (T := TX1) (N := 11) rfl hin1 3 (by decide) (by decide +kernel) rfl dX1_skillAt_19 ?_
    refine lv_iload_n hx hb dX1_skillAt_22 rfl (lv_at hl 1 rfl) ?_
    refine lv_bipush (v := 6) hx hb dX1_skillAt_23 (by decide) ?_
    refine lv_imul hx hb dX1_skillAt_25 ?_
    refine ur_eq (y := nI (p * 6)) (pk_mul p 6) ?_
    refine lv_iload_n hx hb dX1_skillAt_26 rfl (lv_at hl 2 rfl) ?_
    refine lv_iadd hx hb dX1_skillAt_27 ?_
    refine ur_eq (y := nI (p * 6 + so)) (nI_add (p * 6) so) ?_
    refine ur_iald C h 4 (by decide) (uc_4 E _) (p * 6 + so) (by omega) (by decide) dX1_skillAt_28 ?_
    refine lv_iload_n hx hb dX1_skillAt_29 rfl (lv_at hl 3 rfl) ?_
    refine lv_iload_n hx hb dX1_skillAt_30 rfl (lv_at hl 2 rfl) ?_
    refine ur_callNi C h (As := [.int tg, .int (nI so)]) (rest := [.int (M.1 4 (p * 6 + so)), .int (M.1 2 p)]) (k_X6_has l E hI M tg so) (⟨va_cnB 2 hts gX1_skillAt_X6_has_n82 rfl rfl rfl C.2.2.1.1 (hts (.initialized RX6) (by decide +kernel)) (by decide +kernel) ⟨Nat.le_of_ble_eq_true rfl, Nat.le_of_ble_eq_true rfl⟩, hts (.static yX6_has) (by decide +kernel), trivial⟩) rfl hl.1 rfl (Nat.le_of_ble_eq_true rfl) dX1_skillAt_31 (fun r_2 M_3 H locs hw_3 h => ?_)
    obtain ⟨hu, er_2⟩ := hw_3
    subst hu
    rw [er_2]
    refine ur_callSi C h (As := [.int (M.1 2 p), .int (M.1 4 (p * 6 + so)), .int (if ubit tg so = true then 1 else 0)]) (rest := []) (k_X1_skillByKind l E hI M (M.1 2 p) (M.1 4 (p * 6 + so)) (ubit tg so)) (va_cwS 3 hts gX1_skillAt_X1_skillByKind rfl rfl rfl (by decide +kernel) ⟨Nat.le_of_ble_eq_true rfl, Nat.le_of_ble_eq_true rfl⟩) rfl hl.1 rfl (Nat.le_of_ble_eq_true rfl) dX1_skillAt_34 (fun r_4 M_5 H locs hw_5 h => ?_)
    obtain ⟨hu, er_4⟩ := hw_5
    subst hu
    refine ur_eq (y := xBy (M.1 2 p) (M.1 4 (p * 6 + so)) (ubit tg so)) er_4 ?_
    refine lv_topi (fun v_6 ev_6 => ?_)
    refine lv_istore (lv' := [(5, .int v_6), (0, .ref (E.2.1 1)), (1, .int (nI p)), (2, .int (nI so)), (3, .int tg), (4, .int wn)]) hx hb dX1_skillAt_37 hl (by decide) rfl (fun ls hl => ?_)
    refine lv_bipush (v := 10) hx hb dX1_skillAt_39 (by decide) ?_
    refine lv_iload hx hb dX1_skillAt_41 (lv_at hl 0 rfl) ?_
    refine lv_iload hx hb dX1_skillAt_43 (lv_at hl 5 rfl) ?_
    refine lv_iconst (v := 3) hx hb dX1_skillAt_45 (by decide) ?_
    refine lv_idiv hx hb dX1_skillAt_46 (by decide) ?_
    refine lv_iadd hx hb dX1_skillAt_47 ?_
    refine va_mmin hx hb (by rw [C.1.2.2.1]; exact hl.1.symm) hown (hts (.methodLink RX1 90 Lib.Math.min.name) (by decide +kernel)) (hts (.static Lib.Math.min.name) (by decide +kernel)) (hts (.initialized "java/lang/Math") (by decide +kernel)) (hts (.code Lib.Math.min.name Lib.Math.min.code 2 (some .int)) (by decide +kernel)) (Nat.le_of_ble_eq_true rfl) (Nat.le_of_ble_eq_true rfl) (Nat.zero_le _) (Nat.zero_le _) dX1_skillAt_48 ?_
    exact ur_iret C h hr hlocks (⟨rfl, by subst ev_6; unfold xSk; rw [if_neg c_1]; rfl⟩) dX1_skillAt_51
  · skip
    refine lv_iconst (v := 0) hx hb dX1_skillAt_10 (by decide) ?_
    exact ur_iret C h hr hlocks (⟨rfl, by unfold xSk; rw [if_pos c_1]⟩) dX1_skillAt_11
set_option maxHeartbeats 4000000 in
set_option maxRecDepth 100000 in
theorem k_X1_passIf (l : Launch) (E : uE) (hI : uI E) (M : uM) (p w : Nat) (hd tg wn : Int32) (hp : p < 6) (hw : w < 6) : Met l yX1_passIf wsX1_passIf ({ frames := 3, cells := 0, slots := 0, locals := 69 }) (va_Pc [.ref (E.2.1 1), .int (nI p), .int (nI w), .int hd, .int tg, .int wn] (uB E M)) (va_Qi (fun r u => M = u ∧ r = xPassIf M p w hd tg wn) (uP E) (uA E)) 0 0 (uA E) := by
  have hin1 : ∀ w ∈ wsX10, w ∈ wsX1_passIf := by decide +kernel
  refine u_start (cc := cX1_passIf) (maxL := 9) (ret := (some .int)) hI (by decide) rfl (Nat.le_of_ble_eq_true rfl) ?_
  intro p_ e_ s_ m_ bl_ me_ c_ C hr hlocks h ls hl
  have hx := C.1.1
  have hb := C.1.2.1
  have hown : s_.vm.findClass RX1 = some m_.cls := C.1.2.2.2.1
  have hts := C.1.2.2.2.2
  have hl : lv_has ls 9 [(0, .ref (E.2.1 1)), (1, .int (nI p)), (2, .int (nI w)), (3, .int hd), (4, .int tg), (5, .int wn)] := hl
  refine lv_ldc (v := 1000000) hx hb hown (hts (.constant RX1 108 1000000) (by decide +kernel)) dX1_passIf_0 ?_
  refine lv_istore (lv' := [(6, .int 1000000), (0, .ref (E.2.1 1)), (1, .int (nI p)), (2, .int (nI w)), (3, .int hd), (4, .int tg), (5, .int wn)]) hx hb dX1_passIf_2 hl (by decide) rfl (fun ls hl => ?_)
  refine lv_iconst (v := 0) hx hb dX1_passIf_4 (by decide) ?_
  refine lv_istore (lv' := [(7, .int 0), (6, .int 1000000), (0, .ref (E.2.1 1)), (1, .int (nI p)), (2, .int (nI w)), (3, .int hd), (4, .int tg), (5, .int wn)]) hx hb dX1_passIf_5 hl (by decide) rfl (fun ls hl => ?_)
  have lp7 : ∀ (n7 : Nat) (i : Nat) (v : Int32), 6 - i < n7 → i ≤ 6 → v = uPass (M.1 5 w) (xSk M p wn tg) hd i → ∀ (H : Heap) (locs : List Loc) (ls : Array Slot), uH E M s_ H locs → lv_has ls 9 [(7, .int (nI i)), (6, .int v), (0, .ref (E.2.1 1)), (1, .int (nI p)), (2, .int (nI w)), (3, .int hd), (4, .int tg), (5, .int wn)] → W p_ l e_ ({ frames := 3, cells := 0, slots := 0, locals := 69 }) s_ m_ (List.toArray [.ref (E.2.1 1), .int (nI p), .int (nI w), .int hd, .int tg, .int wn]) bl_ me_ c_ H locs 0 0 (MQ bl_ (va_Qi (fun r u => M = u ∧ r = xPassIf M p w hd tg wn) (uP E) (uA E)) (List.toArray [.ref (E.2.1 1), .int (nI p), .int (nI w), .int hd, .int tg, .int wn]) s_ 0 0 (uA E)) (F0 m_ 7 ls []) := by
    intro n7
    induction n7 with
    | zero => intro i v hms; exact absurd hms (Nat.not_lt_zero _)
    | succ n7 ih7 =>
      intro i v hms7 hi hv H locs ls h hl
      refine lv_iload hx hb dX1_passIf_7 (lv_at hl 0 rfl) ?_
      refine lv_bipush (v := 6) hx hb dX1_passIf_9 (by decide) ?_
      refine lv_icmp_ge (tgt := 70) hx hb dX1_passIf_11 (by decide) (fun c_1 => ?_) (fun c_1 => ?_)
      · skip
        have c_1 : 6 ≤ i := (nI_leI (a := 6) (b := i) (by omega) (by omega)).mp c_1
        refine lv_iload hx hb dX1_passIf_70 (lv_at hl 1 rfl) ?_
        exact ur_iret C h hr hlocks (⟨rfl, by rw [hv, show i = 6 by omega]; rfl⟩) dX1_passIf_72
      · skip
        have c_1 : ¬ 6 ≤ i := fun z => c_1 ((nI_leI (a := 6) (b := i) (by omega) (by omega)).mpr z)
        refine lv_aload_n hx hb dX1_passIf_14 rfl (lv_at hl 2 rfl) ?_
        refine ur_get C h 1 (by decide) (uc_1 E _) (Cn := RX1) (T := TX1) (N := 11) rfl hin1 5 (by decide) (by decide +kernel) rfl dX1_passIf_15 ?_
        refine lv_iload_n hx hb dX1_passIf_18 rfl (lv_at hl 4 rfl) ?_
        refine ur_iald C h 5 (by decide) (uc_5 E _) (w) (by omega) (by decide) dX1_passIf_19 ?_
        refine lv_iload hx hb dX1_passIf_20 (lv_at hl 0 rfl) ?_
        refine ur_callNi C h (As := [.int (M.1 5 w), .int (nI i)]) (rest := []) (k_X6_has l E hI M (M.1 5 w) i) (⟨va_cnB 2 hts gX1_passIf_X6_has_n82 rfl rfl rfl C.2.2.1.1 (hts (.initialized RX6) (by decide +kernel)) (by decide +kernel) ⟨Nat.le_of_ble_eq_true rfl, Nat.le_of_ble_eq_true rfl⟩, hts (.static yX6_has) (by decide +kernel), trivial⟩) rfl hl.1 rfl (Nat.le_of_ble_eq_true rfl) dX1_passIf_22 (fun r_2 M_3 H locs hw_3 h => ?_)
        obtain ⟨hu, er_2⟩ := hw_3
        subst hu
        refine lv_if_eq (tgt := 64) hx hb dX1_passIf_25 (by decide) (fun c_4 => ?_) (fun c_4 => ?_)
        · skip
          have c_4 : ¬ (ubit (M.1 5 w) i = true) := uz_f er_2 c_4
          refine lv_iinc (v := nI (i + 1)) (lv' := [(7, .int (nI (i + 1))), (6, .int v), (0, .ref (E.2.1 1)), (1, .int (nI p)), (2, .int (nI w)), (3, .int hd), (4, .int tg), (5, .int wn)]) hx hb dX1_passIf_64 hl (k := 0) rfl (nI_add i 1) (by decide) rfl (fun ls hl => ?_)
          refine lv_goto (tgt := 7) hx hb dX1_passIf_67 (by decide) ?_
          exact ih7  (i + 1) v (by omega) (by omega) (by first | rfl | (simp [uPass, hv, c_1, c_4]; done)) _ _ _ h (lv_sub hl [0, 1, 2, 3, 4, 5, 6, 7] rfl)
        · skip
          have c_4 : ubit (M.1 5 w) i = true := uz_t er_2 c_4
          refine lv_aload_n hx hb dX1_passIf_28 rfl (lv_at hl 2 rfl) ?_
          refine lv_iload_n hx hb dX1_passIf_29 rfl (lv_at hl 3 rfl) ?_
          refine lv_iload hx hb dX1_passIf_30 (lv_at hl 0 rfl) ?_
          refine lv_iload hx hb dX1_passIf_32 (lv_at hl 6 rfl) ?_
          refine lv_iload hx hb dX1_passIf_34 (lv_at hl 7 rfl) ?_
          refine ur_callVi C h (k := 1) (As := [.int (nI p), .int (nI i), .int tg, .int wn]) (rest := []) (k_X1_skillAt l E hI M p i tg wn (by omega) (by omega)) (cwV 4 hts gX1_passIf_X1_skillAt rfl rfl rfl (by decide +kernel) ⟨Nat.le_of_ble_eq_true rfl, Nat.le_of_ble_eq_true rfl⟩) (by decide) (uc_1 E _) (T := TX1) (N := 11) rfl rfl hl.1 rfl (Nat.le_of_ble_eq_true rfl) dX1_passIf_36 (fun r_5 M_6 H locs hw_6 h => ?_)
          obtain ⟨hu, er_5⟩ := hw_6
          subst hu
          refine ur_eq (y := xSk M p wn tg i) er_5 ?_
          refine lv_istore (lv' := [(8, .int (xSk M p wn tg i)), (7, .int (nI i)), (6, .int v), (0, .ref (E.2.1 1)), (1, .int (nI p)), (2, .int (nI w)), (3, .int hd), (4, .int tg), (5, .int wn)]) hx hb dX1_passIf_39 hl (by decide) rfl (fun ls hl => ?_)
          refine lv_iload hx hb dX1_passIf_41 (lv_at hl 2 rfl) ?_
          refine lv_iload hx hb dX1_passIf_43 (lv_at hl 0 rfl) ?_
          refine lv_iload_n hx hb dX1_passIf_45 rfl (lv_at hl 6 rfl) ?_
          refine lv_imul hx hb dX1_passIf_46 ?_
          refine lv_bipush (v := 10) hx hb dX1_passIf_47 (by decide) ?_
          refine lv_iload hx hb dX1_passIf_49 (lv_at hl 0 rfl) ?_
          refine lv_isub hx hb dX1_passIf_51 ?_
          refine lv_bipush (v := 10) hx hb dX1_passIf_52 (by decide) ?_
          refine lv_iload_n hx hb dX1_passIf_54 rfl (lv_at hl 6 rfl) ?_
          refine lv_isub hx hb dX1_passIf_55 ?_
          refine lv_imul hx hb dX1_passIf_56 ?_
          refine lv_iadd hx hb dX1_passIf_57 ?_
          refine lv_imul hx hb dX1_passIf_58 ?_
          refine lv_bipush (v := 100) hx hb dX1_passIf_59 (by decide) ?_
          refine lv_idiv hx hb dX1_passIf_61 (by decide) ?_
          refine lv_topi (fun v_7 ev_7 => ?_)
          refine lv_istore (lv' := [(6, .int v_7), (8, .int (xSk M p wn tg i)), (7, .int (nI i)), (0, .ref (E.2.1 1)), (1, .int (nI p)), (2, .int (nI w)), (3, .int hd), (4, .int tg), (5, .int wn)]) hx hb dX1_passIf_62 hl (by decide) rfl (fun ls hl => ?_)
          refine lv_iinc (v := nI (i + 1)) (lv' := [(7, .int (nI (i + 1))), (6, .int v_7), (8, .int (xSk M p wn tg i)), (0, .ref (E.2.1 1)), (1, .int (nI p)), (2, .int (nI w)), (3, .int hd), (4, .int tg), (5, .int wn)]) hx hb dX1_passIf_64 hl (k := 2) rfl (nI_add i 1) (by decide) rfl (fun ls hl => ?_)
          refine lv_goto (tgt := 7) hx hb dX1_passIf_67 (by decide) ?_
          exact ih7  (i + 1) v_7 (by omega) (by omega) (by first | rfl | (subst ev_7; simp [uPass, hv, c_1, c_4]; done)) _ _ _ h (lv_sub hl [0, 1, 3, 4, 5, 6, 7, 8] rfl)
  exact lp7 _ 0 1000000 (Nat.lt_succ_self _) (by omega) (by first | rfl | (simp [uPass, hv, ]; done)) _ _ _ h (lv_sub hl [0, 1, 2, 3, 4, 5, 6, 7] rfl)
set_option maxHeartbeats 4000000 in
set_option maxRecDepth 100000 in
theorem k_X1_passIn (l : Launch) (E : uE) (hI : uI E) (M : uM) (p w : Nat) (hr0 : Int32) (hp : p < 6) (hw : w < 6) (ht : ¬ M.1 1 7 = 0) : Met l yX1_passIn wsX1_passIn ({ frames := 4, cells := 0, slots := 0, locals := 97 }) (va_Pc [.ref (E.2.1 1), .int (nI p), .int (nI w), .int hr0] (uB E M)) (va_Qi (fun r u => M = u ∧ r = xPassIn M p w hr0) (uP E) (uA E)) 0 0 (uA E) := by
  have hin1 : ∀ w ∈ wsX10, w ∈ wsX1_passIn := by decide +kernel
  have hin3 : ∀ w ∈ wsX30, w ∈ wsX1_passIn := by decide +kernel
  refine u_start (cc := cX1_passIn) (maxL := 4) (ret := (some .int)) hI (by decide) rfl (Nat.le_of_ble_eq_true rfl) ?_
  intro p_ e_ s_ m_ bl_ me_ c_ C hr hlocks h ls hl
  have hx := C.1.1
  have hb := C.1.2.1
  have hown : s_.vm.findClass RX1 = some m_.cls := C.1.2.2.2.1
  have hts := C.1.2.2.2.2
  have hl : lv_has ls 4 [(0, .ref (E.2.1 1)), (1, .int (nI p)), (2, .int (nI w)), (3, .int hr0)] := hl
  refine lv_aload_n hx hb dX1_passIn_0 rfl (lv_at hl 0 rfl) ?_
  refine lv_iload_n hx hb dX1_passIn_1 rfl (lv_at hl 1 rfl) ?_
  refine lv_iload_n hx hb dX1_passIn_2 rfl (lv_at hl 2 rfl) ?_
  refine lv_aload_n hx hb dX1_passIn_3 rfl (lv_at hl 0 rfl) ?_
  refine lv_iload_n hx hb dX1_passIn_4 rfl (lv_at hl 3 rfl) ?_
  refine ur_callVi C h (k := 1) (As := [.int hr0]) (rest := [.int (nI w), .int (nI p), .ref (E.2.1 1)]) (k_X1_hearsIn l E hI M hr0 ht) (cwV 1 hts gX1_passIn_X1_hearsIn rfl rfl rfl (by decide +kernel) ⟨Nat.le_of_ble_eq_true rfl, Nat.le_of_ble_eq_true rfl⟩) (by decide) (uc_1 E _) (T := TX1) (N := 11) rfl rfl hl.1 rfl (Nat.le_of_ble_eq_true rfl) dX1_passIn_5 (fun r_1 M_2 H locs hw_2 h => ?_)
  obtain ⟨hu, er_1⟩ := hw_2
  subst hu
  refine ur_eq (y := xHears (M.1 1 6) (M.1 1 7) hr0) er_1 ?_
  refine lv_aload_n hx hb dX1_passIn_8 rfl (lv_at hl 0 rfl) ?_
  refine ur_get C h 1 (by decide) (uc_1 E _) (Cn := RX1) (T := TX1) (N := 11) rfl hin1 8 (by decide) (by decide +kernel) rfl dX1_passIn_9 ?_
  refine ur_get C h 7 (by decide) (uc_7 E _) (Cn := RX3) (T := TX3) (N := 6) rfl hin3 1 (by decide) (by decide +kernel) rfl dX1_passIn_12 ?_
  refine lv_iload_n hx hb dX1_passIn_15 rfl (lv_at hl 1 rfl) ?_
  refine ur_iald C h 9 (by decide) (uc_9 E _) (p) (by omega) (by decide) dX1_passIn_16 ?_
  refine lv_aload_n hx hb dX1_passIn_17 rfl (lv_at hl 0 rfl) ?_
  refine ur_get C h 1 (by decide) (uc_1 E _) (Cn := RX1) (T := TX1) (N := 11) rfl hin1 8 (by decide) (by decide +kernel) rfl dX1_passIn_18 ?_
  refine ur_get C h 7 (by decide) (uc_7 E _) (Cn := RX3) (T := TX3) (N := 6) rfl hin3 2 (by decide) (by decide +kernel) rfl dX1_passIn_21 ?_
  refine lv_iload_n hx hb dX1_passIn_24 rfl (lv_at hl 2 rfl) ?_
  refine ur_iald C h 10 (by decide) (uc_10 E _) (w) (by omega) (by decide) dX1_passIn_25 ?_
  refine ur_callVi C h (k := 1) (As := [.int (nI p), .int (nI w), .int (xHears (M.1 1 6) (M.1 1 7) hr0), .int (M.1 9 p), .int (M.1 10 w)]) (rest := []) (k_X1_passIf l E hI M p w (xHears (M.1 1 6) (M.1 1 7) hr0) (M.1 9 p) (M.1 10 w) (by omega) (by omega)) (cwV 5 hts gX1_passIn_X1_passIf rfl rfl rfl (by decide +kernel) ⟨Nat.le_of_ble_eq_true rfl, Nat.le_of_ble_eq_true rfl⟩) (by decide) (uc_1 E _) (T := TX1) (N := 11) rfl rfl hl.1 rfl (Nat.le_of_ble_eq_true rfl) dX1_passIn_26 (fun r_3 M_4 H locs hw_4 h => ?_)
  obtain ⟨hu, er_3⟩ := hw_4
  subst hu
  refine ur_eq (y := xPassIf M p w (xHears (M.1 1 6) (M.1 1 7) hr0) (M.1 9 p) (M.1 10 w)) er_3 ?_
  exact ur_iret C h hr hlocks (⟨rfl, rfl⟩) dX1_passIn_29
set_option maxHeartbeats 4000000 in
set_option maxRecDepth 100000 in
theorem k_X1_passNow (l : Launch) (E : uE) (hI : uI E) (M : uM) (p w : Nat) (hp : p < 6) (hw : w < 6) (ht : ¬ M.1 1 7 = 0) : Met l yX1_passNow wsX1_passNow ({ frames := 5, cells := 0, slots := 0, locals := 120 }) (va_Pc [.ref (E.2.1 1), .int (nI p), .int (nI w)] (uB E M)) (va_Qi (fun r u => M = u ∧ r = xPassIn M p w (M.1 7 4)) (uP E) (uA E)) 0 0 (uA E) := by
  have hin1 : ∀ w ∈ wsX10, w ∈ wsX1_passNow := by decide +kernel
  have hin3 : ∀ w ∈ wsX30, w ∈ wsX1_passNow := by decide +kernel
  refine u_start (cc := cX1_passNow) (maxL := 3) (ret := (some .int)) hI (by decide) rfl (Nat.le_of_ble_eq_true rfl) ?_
  intro p_ e_ s_ m_ bl_ me_ c_ C hr hlocks h ls hl
  have hx := C.1.1
  have hb := C.1.2.1
  have hown : s_.vm.findClass RX1 = some m_.cls := C.1.2.2.2.1
  have hts := C.1.2.2.2.2
  have hl : lv_has ls 3 [(0, .ref (E.2.1 1)), (1, .int (nI p)), (2, .int (nI w))] := hl
  refine lv_aload_n hx hb dX1_passNow_0 rfl (lv_at hl 0 rfl) ?_
  refine lv_iload_n hx hb dX1_passNow_1 rfl (lv_at hl 1 rfl) ?_
  refine lv_iload_n hx hb dX1_passNow_2 rfl (lv_at hl 2 rfl) ?_
  refine lv_aload_n hx hb dX1_passNow_3 rfl (lv_at hl 0 rfl) ?_
  refine ur_get C h 1 (by decide) (uc_1 E _) (Cn := RX1) (T := TX1) (N := 11) rfl hin1 8 (by decide) (by decide +kernel) rfl dX1_passNow_4 ?_
  refine ur_get C h 7 (by decide) (uc_7 E _) (Cn := RX3) (T := TX3) (N := 6) rfl hin3 4 (by decide) (by decide +kernel) rfl dX1_passNow_7 ?_
  refine ur_callVi C h (k := 1) (As := [.int (nI p), .int (nI w), .int (M.1 7 4)]) (rest := []) (k_X1_passIn l E hI M p w (M.1 7 4) (by omega) (by omega) ht) (cwV 3 hts gX1_passNow_X1_passIn rfl rfl rfl (by decide +kernel) ⟨Nat.le_of_ble_eq_true rfl, Nat.le_of_ble_eq_true rfl⟩) (by decide) (uc_1 E _) (T := TX1) (N := 11) rfl rfl hl.1 rfl (Nat.le_of_ble_eq_true rfl) dX1_passNow_10 (fun r_1 M_2 H locs hw_2 h => ?_)
  obtain ⟨hu, er_1⟩ := hw_2
  subst hu
  refine ur_eq (y := xPassIn M p w (M.1 7 4)) er_1 ?_
  exact ur_iret C h hr hlocks (⟨rfl, rfl⟩) dX1_passNow_13
set_option maxHeartbeats 4000000 in
set_option maxRecDepth 100000 in
theorem k_X1_allWhoAre (l : Launch) (E : uE) (hI : uI E) (M : uM) (x0 : Int32) (n : Nat) (hn : M.1 1 0 = nI n) (hn6 : n ≤ 6) : Met l yX1_allWhoAre wsX1_allWhoAre ({ frames := 0, cells := 0, slots := 0, locals := 0 }) (va_Pc [.ref (E.2.1 1), .int x0] (uB E M)) (va_Qi (fun r u => M = u ∧ r = nI (xThose M n x0)) (uP E) (uA E)) 0 0 (uA E) := by
  have hin1 : ∀ w ∈ wsX10, w ∈ wsX1_allWhoAre := by decide +kernel
  have hin3 : ∀ w ∈ wsX30, w ∈ wsX1_allWhoAre := by decide +kernel
  refine u_start (cc := cX1_allWhoAre) (maxL := 4) (ret := (some .int)) hI (by decide) rfl (Nat.le_of_ble_eq_true rfl) ?_
  intro p_ e_ s_ m_ bl_ me_ c_ C hr hlocks h ls hl
  have hx := C.1.1
  have hb := C.1.2.1
  have hown : s_.vm.findClass RX1 = some m_.cls := C.1.2.2.2.1
  have hts := C.1.2.2.2.2
  have hl : lv_has ls 4 [(0, .ref (E.2.1 1)), (1, .int x0)] := hl
  refine lv_iconst (v := 0) hx hb dX1_allWhoAre_0 (by decide) ?_
  refine lv_istore_n (lv' := [(2, .int 0), (0, .ref (E.2.1 1)), (1, .int x0)]) hx hb dX1_allWhoAre_1 rfl hl (by decide) rfl (fun ls hl => ?_)
  refine lv_iconst (v := 0) hx hb dX1_allWhoAre_2 (by decide) ?_
  refine lv_istore_n (lv' := [(3, .int 0), (2, .int 0), (0, .ref (E.2.1 1)), (1, .int x0)]) hx hb dX1_allWhoAre_3 rfl hl (by decide) rfl (fun ls hl => ?_)
  have lp4 : ∀ (n4 : Nat) (i : Nat), n - i < n4 → i ≤ n → ∀ (H : Heap) (locs : List Loc) (ls : Array Slot), uH E M s_ H locs → lv_has ls 4 [(3, .int (nI i)), (2, .int (nI (nSet (fun p => decide (M.1 8 p = x0)) i))), (0, .ref (E.2.1 1)), (1, .int x0)] → W p_ l e_ ({ frames := 0, cells := 0, slots := 0, locals := 0 }) s_ m_ (List.toArray [.ref (E.2.1 1), .int x0]) bl_ me_ c_ H locs 0 0 (MQ bl_ (va_Qi (fun r u => M = u ∧ r = nI (xThose M n x0)) (uP E) (uA E)) (List.toArray [.ref (E.2.1 1), .int x0]) s_ 0 0 (uA E)) (F0 m_ 4 ls []) := by
    intro n4
    induction n4 with
    | zero => intro i hms; exact absurd hms (Nat.not_lt_zero _)
    | succ n4 ih4 =>
      intro i hms4 hi H locs ls h hl
      refine lv_iload_n hx hb dX1_allWhoAre_4 rfl (lv_at hl 0 rfl) ?_
      refine lv_aload_n hx hb dX1_allWhoAre_5 rfl (lv_at hl 2 rfl) ?_
      refine ur_get C h 1 (by decide) (uc_1 E _) (Cn := RX1) (T := TX1) (N := 11) rfl hin1 0 (by decide) (by decide +kernel) rfl dX1_allWhoAre_6 ?_
      refine ur_eq (y := nI n) (hn) ?_
      refine lv_icmp_ge (tgt := 37) hx hb dX1_allWhoAre_9 (by decide) (fun c_1 => ?_) (fun c_1 => ?_)
      · skip
        have c_1 : n ≤ i := (nI_leI (a := n) (b := i) (by omega) (by omega)).mp c_1
        refine lv_iload_n hx hb dX1_allWhoAre_37 rfl (lv_at hl 1 rfl) ?_
        exact ur_iret C h hr hlocks (⟨rfl, by rw [show i = n by omega]; rfl⟩) dX1_allWhoAre_38
      · skip
        have c_1 : ¬ n ≤ i := fun z => c_1 ((nI_leI (a := n) (b := i) (by omega) (by omega)).mpr z)
        refine lv_aload_n hx hb dX1_allWhoAre_12 rfl (lv_at hl 2 rfl) ?_
        refine ur_get C h 1 (by decide) (uc_1 E _) (Cn := RX1) (T := TX1) (N := 11) rfl hin1 8 (by decide) (by decide +kernel) rfl dX1_allWhoAre_13 ?_
        refine ur_get C h 7 (by decide) (uc_7 E _) (Cn := RX3) (T := TX3) (N := 6) rfl hin3 0 (by decide) (by decide +kernel) rfl dX1_allWhoAre_16 ?_
        refine lv_iload_n hx hb dX1_allWhoAre_19 rfl (lv_at hl 0 rfl) ?_
        refine ur_iald C h 8 (by decide) (uc_8 E _) (i) (by omega) (by decide) dX1_allWhoAre_20 ?_
        refine lv_iload_n hx hb dX1_allWhoAre_21 rfl (lv_at hl 3 rfl) ?_
        refine lv_icmp_ne (tgt := 31) hx hb dX1_allWhoAre_22 (by decide) (fun c_2 => ?_) (fun c_2 => ?_)
        · skip
          have hns := nSet_n (f := (fun p => decide (M.1 8 p = x0))) (i := i) (decide_eq_false c_2)
          rw [hns] at hl
          refine lv_iinc (v := nI (i + 1)) (lv' := [(3, .int (nI (i + 1))), (2, .int (nI (nSet (fun p => decide (M.1 8 p = x0)) (i + 1)))), (0, .ref (E.2.1 1)), (1, .int x0)]) hx hb dX1_allWhoAre_31 hl (k := 0) rfl (nI_add i 1) (by decide) rfl (fun ls hl => ?_)
          refine lv_goto (tgt := 4) hx hb dX1_allWhoAre_34 (by decide) ?_
          exact ih4  (i + 1) (by omega) (by omega) _ _ _ h (lv_sub hl [0, 1, 2, 3] rfl)
        · skip
          refine lv_iload_n hx hb dX1_allWhoAre_25 rfl (lv_at hl 1 rfl) ?_
          refine lv_iconst (v := 1) hx hb dX1_allWhoAre_26 (by decide) ?_
          refine lv_iload_n hx hb dX1_allWhoAre_27 rfl (lv_at hl 0 rfl) ?_
          refine lv_ishl hx hb dX1_allWhoAre_28 ?_
          refine lv_ior hx hb dX1_allWhoAre_29 ?_
          refine ur_eq (y := nI (nSet (fun p => decide (M.1 8 p = x0)) (i + 1))) (nSet_t (f := (fun p => decide (M.1 8 p = x0))) (by omega) (decide_eq_true c_2)) ?_
          refine lv_istore_n (lv' := [(2, .int (nI (nSet (fun p => decide (M.1 8 p = x0)) (i + 1)))), (3, .int (nI i)), (0, .ref (E.2.1 1)), (1, .int x0)]) hx hb dX1_allWhoAre_30 rfl hl (by decide) rfl (fun ls hl => ?_)
          refine lv_iinc (v := nI (i + 1)) (lv' := [(3, .int (nI (i + 1))), (2, .int (nI (nSet (fun p => decide (M.1 8 p = x0)) (i + 1)))), (0, .ref (E.2.1 1)), (1, .int x0)]) hx hb dX1_allWhoAre_31 hl (k := 1) rfl (nI_add i 1) (by decide) rfl (fun ls hl => ?_)
          refine lv_goto (tgt := 4) hx hb dX1_allWhoAre_34 (by decide) ?_
          exact ih4  (i + 1) (by omega) (by omega) _ _ _ h (lv_sub hl [0, 1, 2, 3] rfl)
  exact lp4 _ 0 (Nat.lt_succ_self _) (by omega) _ _ _ h (lv_sub hl [0, 1, 2, 3] rfl)
set_option maxHeartbeats 4000000 in
set_option maxRecDepth 100000 in
theorem k_X0_becomeLike (l : Launch) (E : uE) (hI : uI E) (M : uM) (q r0 : Nat) (hq : uMom q) (hr0 : uMom r0) : Met l yX0_becomeLike wsX0_becomeLike ({ frames := 1, cells := 0, slots := 0, locals := 26 }) (va_Pc [.ref (E.2.1 (q + 4)), .ref (E.2.1 (r0 + 4))] (uB E M)) (va_Qv (fun u => u = xBookCp M q r0) (uP E) (uA E)) 0 0 (uA E) := by
  have hin0 : ∀ w ∈ wsX00, w ∈ wsX0_becomeLike := by decide +kernel
  refine u_start (cc := cX0_becomeLike) (maxL := 2) (ret := none) hI (by decide) rfl (Nat.le_of_ble_eq_true rfl) ?_
  intro p_ e_ s_ m_ bl_ me_ c_ C hr hlocks h ls hl
  have hx := C.1.1
  have hb := C.1.2.1
  have hown : s_.vm.findClass RX0 = some m_.cls := C.1.2.2.2.1
  have hts := C.1.2.2.2.2
  have hl : lv_has ls 2 [(0, .ref (E.2.1 (q + 4))), (1, .ref (E.2.1 (r0 + 4)))] := hl
  refine lv_aload_n hx hb dX0_becomeLike_0 rfl (lv_at hl 0 rfl) ?_
  refine lv_aload_n hx hb dX0_becomeLike_1 rfl (lv_at hl 1 rfl) ?_
  refine ur_get C h (r0 + 4) (by have := uMom_lt hr0; omega) (uc_m4 hr0 E _) (Cn := RX0) (T := TX0) (N := 4) rfl hin0 0 (by decide) (by decide +kernel) rfl dX0_becomeLike_2 ?_
  refine ur_puti C h (q + 4) (by have := uMom_lt hq; omega) (uc_m4 hq E _) (Cn := RX0) (T := TX0) (N := 4) rfl hin0 tyX0 tyX0_ok nmX0 0 (by decide) (by decide +kernel) rfl rfl rfl (Nat.le_of_ble_eq_true rfl) (us_m4_0 hq E _ _) dX0_becomeLike_5 (fun M_1 H locs eM_1 h => ?_)
  refine lv_aload_n hx hb dX0_becomeLike_8 rfl (lv_at hl 1 rfl) ?_
  refine ur_get C h (r0 + 4) (by have := uMom_lt hr0; omega) (uc_m4 hr0 E _) (Cn := RX0) (T := TX0) (N := 4) rfl hin0 1 (by decide) (by decide +kernel) rfl dX0_becomeLike_9 ?_
  refine lv_iconst (v := 0) hx hb dX0_becomeLike_12 (by decide) ?_
  refine lv_aload_n hx hb dX0_becomeLike_13 rfl (lv_at hl 0 rfl) ?_
  refine ur_get C h (q + 4) (by have := uMom_lt hq; omega) (uc_m4 hq E _) (Cn := RX0) (T := TX0) (N := 4) rfl hin0 1 (by decide) (by decide +kernel) rfl dX0_becomeLike_14 ?_
  refine lv_iconst (v := 0) hx hb dX0_becomeLike_17 (by decide) ?_
  refine lv_bipush (v := 12) hx hb dX0_becomeLike_18 (by decide) ?_
  refine ur_copyi C h hl.1 (by decide +kernel) (by decide +kernel) (by decide +kernel) (by decide +kernel) (r0 + 5) (q + 5) (by have := uMom_lt hr0; omega) (by have := uMom_lt hq; omega) (uc_m5 hr0 E _) (uc_m5 hq E) (0) (0) (12) (by omega) (by omega) (by decide) (by decide) (Nat.le_of_ble_eq_true rfl) (Nat.le_of_ble_eq_true rfl) dX0_becomeLike_20 (fun M_2 H locs eM_2 h => ?_)
  refine lv_aload_n hx hb dX0_becomeLike_23 rfl (lv_at hl 1 rfl) ?_
  refine ur_get C h (r0 + 4) (by have := uMom_lt hr0; omega) (uc_m4 hr0 E _) (Cn := RX0) (T := TX0) (N := 4) rfl hin0 2 (by decide) (by decide +kernel) rfl dX0_becomeLike_24 ?_
  refine lv_iconst (v := 0) hx hb dX0_becomeLike_27 (by decide) ?_
  refine lv_aload_n hx hb dX0_becomeLike_28 rfl (lv_at hl 0 rfl) ?_
  refine ur_get C h (q + 4) (by have := uMom_lt hq; omega) (uc_m4 hq E _) (Cn := RX0) (T := TX0) (N := 4) rfl hin0 2 (by decide) (by decide +kernel) rfl dX0_becomeLike_29 ?_
  refine lv_iconst (v := 0) hx hb dX0_becomeLike_32 (by decide) ?_
  refine lv_bipush (v := 12) hx hb dX0_becomeLike_33 (by decide) ?_
  refine ur_copyi C h hl.1 (by decide +kernel) (by decide +kernel) (by decide +kernel) (by decide +kernel) (r0 + 6) (q + 6) (by have := uMom_lt hr0; omega) (by have := uMom_lt hq; omega) (uc_m6 hr0 E _) (uc_m6 hq E) (0) (0) (12) (by omega) (by omega) (by decide) (by decide) (Nat.le_of_ble_eq_true rfl) (Nat.le_of_ble_eq_true rfl) dX0_becomeLike_35 (fun M_3 H locs eM_3 h => ?_)
  refine lv_aload_n hx hb dX0_becomeLike_38 rfl (lv_at hl 1 rfl) ?_
  refine ur_get C h (r0 + 4) (by have := uMom_lt hr0; omega) (uc_m4 hr0 E _) (Cn := RX0) (T := TX0) (N := 4) rfl hin0 3 (by decide) (by decide +kernel) rfl dX0_becomeLike_39 ?_
  refine lv_iconst (v := 0) hx hb dX0_becomeLike_42 (by decide) ?_
  refine lv_aload_n hx hb dX0_becomeLike_43 rfl (lv_at hl 0 rfl) ?_
  refine ur_get C h (q + 4) (by have := uMom_lt hq; omega) (uc_m4 hq E _) (Cn := RX0) (T := TX0) (N := 4) rfl hin0 3 (by decide) (by decide +kernel) rfl dX0_becomeLike_44 ?_
  refine lv_iconst (v := 0) hx hb dX0_becomeLike_47 (by decide) ?_
  refine lv_bipush (v := 12) hx hb dX0_becomeLike_48 (by decide) ?_
  refine ur_copyi C h hl.1 (by decide +kernel) (by decide +kernel) (by decide +kernel) (by decide +kernel) (r0 + 7) (q + 7) (by have := uMom_lt hr0; omega) (by have := uMom_lt hq; omega) (uc_m7 hr0 E _) (uc_m7 hq E) (0) (0) (12) (by omega) (by omega) (by decide) (by decide) (Nat.le_of_ble_eq_true rfl) (Nat.le_of_ble_eq_true rfl) dX0_becomeLike_50 (fun M_4 H locs eM_4 h => ?_)
  exact ur_vret C h hr hlocks (by subst eM_1; subst eM_2; subst eM_3; subst eM_4; rfl) dX0_becomeLike_53
set_option maxHeartbeats 4000000 in
set_option maxRecDepth 100000 in
theorem k_X3_becomeLike (l : Launch) (E : uE) (hI : uI E) (M : uM) (q r0 : Nat) (hq : uMom q) (hr0 : uMom r0) : Met l yX3_becomeLike wsX3_becomeLike ({ frames := 2, cells := 0, slots := 0, locals := 47 }) (va_Pc [.ref (E.2.1 q), .ref (E.2.1 r0)] (uB E M)) (va_Qv (fun u => u = xMomCp M q r0) (uP E) (uA E)) 0 0 (uA E) := by
  have hin3 : ∀ w ∈ wsX30, w ∈ wsX3_becomeLike := by decide +kernel
  refine u_start (cc := cX3_becomeLike) (maxL := 2) (ret := none) hI (by decide) rfl (Nat.le_of_ble_eq_true rfl) ?_
  intro p_ e_ s_ m_ bl_ me_ c_ C hr hlocks h ls hl
  have hx := C.1.1
  have hb := C.1.2.1
  have hown : s_.vm.findClass RX3 = some m_.cls := C.1.2.2.2.1
  have hts := C.1.2.2.2.2
  have hl : lv_has ls 2 [(0, .ref (E.2.1 q)), (1, .ref (E.2.1 r0))] := hl
  refine lv_aload_n hx hb dX3_becomeLike_0 rfl (lv_at hl 1 rfl) ?_
  refine ur_get C h r0 (by have := uMom_lt hr0; omega) (uc_m0 hr0 E _) (Cn := RX3) (T := TX3) (N := 6) rfl hin3 0 (by decide) (by decide +kernel) rfl dX3_becomeLike_1 ?_
  refine lv_iconst (v := 0) hx hb dX3_becomeLike_4 (by decide) ?_
  refine lv_aload_n hx hb dX3_becomeLike_5 rfl (lv_at hl 0 rfl) ?_
  refine ur_get C h q (by have := uMom_lt hq; omega) (uc_m0 hq E _) (Cn := RX3) (T := TX3) (N := 6) rfl hin3 0 (by decide) (by decide +kernel) rfl dX3_becomeLike_6 ?_
  refine lv_iconst (v := 0) hx hb dX3_becomeLike_9 (by decide) ?_
  refine lv_bipush (v := 6) hx hb dX3_becomeLike_10 (by decide) ?_
  refine ur_copyi C h hl.1 (by decide +kernel) (by decide +kernel) (by decide +kernel) (by decide +kernel) (r0 + 1) (q + 1) (by have := uMom_lt hr0; omega) (by have := uMom_lt hq; omega) (uc_m1 hr0 E _) (uc_m1 hq E) (0) (0) (6) (by omega) (by omega) (by decide) (by decide) (Nat.le_of_ble_eq_true rfl) (Nat.le_of_ble_eq_true rfl) dX3_becomeLike_12 (fun M_1 H locs eM_1 h => ?_)
  refine lv_aload_n hx hb dX3_becomeLike_15 rfl (lv_at hl 1 rfl) ?_
  refine ur_get C h r0 (by have := uMom_lt hr0; omega) (uc_m0 hr0 E _) (Cn := RX3) (T := TX3) (N := 6) rfl hin3 1 (by decide) (by decide +kernel) rfl dX3_becomeLike_16 ?_
  refine lv_iconst (v := 0) hx hb dX3_becomeLike_19 (by decide) ?_
  refine lv_aload_n hx hb dX3_becomeLike_20 rfl (lv_at hl 0 rfl) ?_
  refine ur_get C h q (by have := uMom_lt hq; omega) (uc_m0 hq E _) (Cn := RX3) (T := TX3) (N := 6) rfl hin3 1 (by decide) (by decide +kernel) rfl dX3_becomeLike_21 ?_
  refine lv_iconst (v := 0) hx hb dX3_becomeLike_24 (by decide) ?_
  refine lv_bipush (v := 6) hx hb dX3_becomeLike_25 (by decide) ?_
  refine ur_copyi C h hl.1 (by decide +kernel) (by decide +kernel) (by decide +kernel) (by decide +kernel) (r0 + 2) (q + 2) (by have := uMom_lt hr0; omega) (by have := uMom_lt hq; omega) (uc_m2 hr0 E _) (uc_m2 hq E) (0) (0) (6) (by omega) (by omega) (by decide) (by decide) (Nat.le_of_ble_eq_true rfl) (Nat.le_of_ble_eq_true rfl) dX3_becomeLike_27 (fun M_2 H locs eM_2 h => ?_)
  refine lv_aload_n hx hb dX3_becomeLike_30 rfl (lv_at hl 1 rfl) ?_
  refine ur_get C h r0 (by have := uMom_lt hr0; omega) (uc_m0 hr0 E _) (Cn := RX3) (T := TX3) (N := 6) rfl hin3 2 (by decide) (by decide +kernel) rfl dX3_becomeLike_31 ?_
  refine lv_iconst (v := 0) hx hb dX3_becomeLike_34 (by decide) ?_
  refine lv_aload_n hx hb dX3_becomeLike_35 rfl (lv_at hl 0 rfl) ?_
  refine ur_get C h q (by have := uMom_lt hq; omega) (uc_m0 hq E _) (Cn := RX3) (T := TX3) (N := 6) rfl hin3 2 (by decide) (by decide +kernel) rfl dX3_becomeLike_36 ?_
  refine lv_iconst (v := 0) hx hb dX3_becomeLike_39 (by decide) ?_
  refine lv_bipush (v := 6) hx hb dX3_becomeLike_40 (by decide) ?_
  refine ur_copyi C h hl.1 (by decide +kernel) (by decide +kernel) (by decide +kernel) (by decide +kernel) (r0 + 3) (q + 3) (by have := uMom_lt hr0; omega) (by have := uMom_lt hq; omega) (uc_m3 hr0 E _) (uc_m3 hq E) (0) (0) (6) (by omega) (by omega) (by decide) (by decide) (Nat.le_of_ble_eq_true rfl) (Nat.le_of_ble_eq_true rfl) dX3_becomeLike_42 (fun M_3 H locs eM_3 h => ?_)
  refine lv_aload_n hx hb dX3_becomeLike_45 rfl (lv_at hl 0 rfl) ?_
  refine ur_get C h q (by have := uMom_lt hq; omega) (uc_m0 hq E _) (Cn := RX3) (T := TX3) (N := 6) rfl hin3 3 (by decide) (by decide +kernel) rfl dX3_becomeLike_46 ?_
  refine lv_aload_n hx hb dX3_becomeLike_49 rfl (lv_at hl 1 rfl) ?_
  refine ur_get C h r0 (by have := uMom_lt hr0; omega) (uc_m0 hr0 E _) (Cn := RX3) (T := TX3) (N := 6) rfl hin3 3 (by decide) (by decide +kernel) rfl dX3_becomeLike_50 ?_
  refine ur_callVv C h (k := q + 4) (As := [.ref (E.2.1 (r0 + 4))]) (rest := []) (k_X0_becomeLike l E hI M_3 q r0 hq hr0) (cwV 1 hts gX3_becomeLike_X0_becomeLike rfl rfl rfl (by decide +kernel) ⟨Nat.le_of_ble_eq_true rfl, Nat.le_of_ble_eq_true rfl⟩) (by have := uMom_lt hq; omega) (uc_m4 hq E _) (T := TX0) (N := 4) rfl rfl hl.1 rfl (Nat.le_of_ble_eq_true rfl) dX3_becomeLike_53 (fun M_5 H locs hw_5 h => ?_)
  have eM_5 := hw_5
  refine lv_aload_n hx hb dX3_becomeLike_56 rfl (lv_at hl 0 rfl) ?_
  refine lv_aload_n hx hb dX3_becomeLike_57 rfl (lv_at hl 1 rfl) ?_
  refine ur_get C h r0 (by have := uMom_lt hr0; omega) (uc_m0 hr0 E _) (Cn := RX3) (T := TX3) (N := 6) rfl hin3 4 (by decide) (by decide +kernel) rfl dX3_becomeLike_58 ?_
  refine ur_puti C h q (by have := uMom_lt hq; omega) (uc_m0 hq E _) (Cn := RX3) (T := TX3) (N := 6) rfl hin3 tyX3 tyX3_ok nmX3 4 (by decide) (by decide +kernel) rfl rfl rfl (Nat.le_of_ble_eq_true rfl) (us_m0_4 hq E _ _) dX3_becomeLike_61 (fun M_6 H locs eM_6 h => ?_)
  refine lv_aload_n hx hb dX3_becomeLike_64 rfl (lv_at hl 0 rfl) ?_
  refine lv_aload_n hx hb dX3_becomeLike_65 rfl (lv_at hl 1 rfl) ?_
  refine ur_get C h r0 (by have := uMom_lt hr0; omega) (uc_m0 hr0 E _) (Cn := RX3) (T := TX3) (N := 6) rfl hin3 5 (by decide) (by decide +kernel) rfl dX3_becomeLike_66 ?_
  refine ur_puti C h q (by have := uMom_lt hq; omega) (uc_m0 hq E _) (Cn := RX3) (T := TX3) (N := 6) rfl hin3 tyX3 tyX3_ok nmX3 5 (by decide) (by decide +kernel) rfl rfl rfl (Nat.le_of_ble_eq_true rfl) (us_m0_5 hq E _ _) dX3_becomeLike_69 (fun M_7 H locs eM_7 h => ?_)
  exact ur_vret C h hr hlocks (by subst eM_1; subst eM_2; subst eM_3; subst eM_5; subst eM_6; subst eM_7; rfl) dX3_becomeLike_72
set_option maxHeartbeats 4000000 in
set_option maxRecDepth 100000 in
theorem k_X0_loseOldest (l : Launch) (E : uE) (hI : uI E) (M : uM)  : Met l yX0_loseOldest wsX0_loseOldest ({ frames := 1, cells := 0, slots := 0, locals := 26 }) (va_Pc [.ref (E.2.1 11)] (uB E M)) (va_Qv (fun u => u = xLose M) (uP E) (uA E)) 0 0 (uA E) := by
  have hin0 : ∀ w ∈ wsX00, w ∈ wsX0_loseOldest := by decide +kernel
  refine u_start (cc := cX0_loseOldest) (maxL := 1) (ret := none) hI (by decide) rfl (Nat.le_of_ble_eq_true rfl) ?_
  intro p_ e_ s_ m_ bl_ me_ c_ C hr hlocks h ls hl
  have hx := C.1.1
  have hb := C.1.2.1
  have hown : s_.vm.findClass RX0 = some m_.cls := C.1.2.2.2.1
  have hts := C.1.2.2.2.2
  have hl : lv_has ls 1 [(0, .ref (E.2.1 11))] := hl
  refine lv_aload_n hx hb dX0_loseOldest_0 rfl (lv_at hl 0 rfl) ?_
  refine lv_bipush (v := 11) hx hb dX0_loseOldest_1 (by decide) ?_
  refine ur_puti C h 11 (by decide) (uc_11 E _) (Cn := RX0) (T := TX0) (N := 4) rfl hin0 tyX0 tyX0_ok nmX0 0 (by decide) (by decide +kernel) rfl rfl rfl (Nat.le_of_ble_eq_true rfl) (us_11_0 E _ _) dX0_loseOldest_3 (fun M_1 H locs eM_1 h => ?_)
  refine lv_aload_n hx hb dX0_loseOldest_6 rfl (lv_at hl 0 rfl) ?_
  refine ur_get C h 11 (by decide) (uc_11 E _) (Cn := RX0) (T := TX0) (N := 4) rfl hin0 1 (by decide) (by decide +kernel) rfl dX0_loseOldest_7 ?_
  refine lv_iconst (v := 1) hx hb dX0_loseOldest_10 (by decide) ?_
  refine lv_aload_n hx hb dX0_loseOldest_11 rfl (lv_at hl 0 rfl) ?_
  refine ur_get C h 11 (by decide) (uc_11 E _) (Cn := RX0) (T := TX0) (N := 4) rfl hin0 1 (by decide) (by decide +kernel) rfl dX0_loseOldest_12 ?_
  refine lv_iconst (v := 0) hx hb dX0_loseOldest_15 (by decide) ?_
  refine lv_aload_n hx hb dX0_loseOldest_16 rfl (lv_at hl 0 rfl) ?_
  refine ur_get C h 11 (by decide) (uc_11 E _) (Cn := RX0) (T := TX0) (N := 4) rfl hin0 0 (by decide) (by decide +kernel) rfl dX0_loseOldest_17 ?_
  refine ur_eq (y := nI 11) (by rw [eM_1, u_set1, if_pos rfl, if_pos rfl]; try rfl) ?_
  refine ur_copyi C h hl.1 (by decide +kernel) (by decide +kernel) (by decide +kernel) (by decide +kernel) 12 12 (by decide) (by decide) (uc_12 E _) (uc_12 E) (1) (0) (11) (by omega) (by omega) (by decide) (by decide) (Nat.le_of_ble_eq_true rfl) (Nat.le_of_ble_eq_true rfl) dX0_loseOldest_20 (fun M_2 H locs eM_2 h => ?_)
  refine lv_aload_n hx hb dX0_loseOldest_23 rfl (lv_at hl 0 rfl) ?_
  refine ur_get C h 11 (by decide) (uc_11 E _) (Cn := RX0) (T := TX0) (N := 4) rfl hin0 2 (by decide) (by decide +kernel) rfl dX0_loseOldest_24 ?_
  refine lv_iconst (v := 1) hx hb dX0_loseOldest_27 (by decide) ?_
  refine lv_aload_n hx hb dX0_loseOldest_28 rfl (lv_at hl 0 rfl) ?_
  refine ur_get C h 11 (by decide) (uc_11 E _) (Cn := RX0) (T := TX0) (N := 4) rfl hin0 2 (by decide) (by decide +kernel) rfl dX0_loseOldest_29 ?_
  refine lv_iconst (v := 0) hx hb dX0_loseOldest_32 (by decide) ?_
  refine lv_aload_n hx hb dX0_loseOldest_33 rfl (lv_at hl 0 rfl) ?_
  refine ur_get C h 11 (by decide) (uc_11 E _) (Cn := RX0) (T := TX0) (N := 4) rfl hin0 0 (by decide) (by decide +kernel) rfl dX0_loseOldest_34 ?_
  refine ur_eq (y := nI 11) (by rw [eM_2, u_row1, if_neg (by decide), eM_1, u_set1, if_pos rfl, if_pos rfl]; try rfl) ?_
  refine ur_copyi C h hl.1 (by decide +kernel) (by decide +kernel) (by decide +kernel) (by decide +kernel) 13 13 (by decide) (by decide) (uc_13 E _) (uc_13 E) (1) (0) (11) (by omega) (by omega) (by decide) (by decide) (Nat.le_of_ble_eq_true rfl) (Nat.le_of_ble_eq_true rfl) dX0_loseOldest_37 (fun M_3 H locs eM_3 h => ?_)
  refine lv_aload_n hx hb dX0_loseOldest_40 rfl (lv_at hl 0 rfl) ?_
  refine ur_get C h 11 (by decide) (uc_11 E _) (Cn := RX0) (T := TX0) (N := 4) rfl hin0 3 (by decide) (by decide +kernel) rfl dX0_loseOldest_41 ?_
  refine lv_iconst (v := 1) hx hb dX0_loseOldest_44 (by decide) ?_
  refine lv_aload_n hx hb dX0_loseOldest_45 rfl (lv_at hl 0 rfl) ?_
  refine ur_get C h 11 (by decide) (uc_11 E _) (Cn := RX0) (T := TX0) (N := 4) rfl hin0 3 (by decide) (by decide +kernel) rfl dX0_loseOldest_46 ?_
  refine lv_iconst (v := 0) hx hb dX0_loseOldest_49 (by decide) ?_
  refine lv_aload_n hx hb dX0_loseOldest_50 rfl (lv_at hl 0 rfl) ?_
  refine ur_get C h 11 (by decide) (uc_11 E _) (Cn := RX0) (T := TX0) (N := 4) rfl hin0 0 (by decide) (by decide +kernel) rfl dX0_loseOldest_51 ?_
  refine ur_eq (y := nI 11) (by rw [eM_3, u_row1, if_neg (by decide), eM_2, u_row1, if_neg (by decide), eM_1, u_set1, if_pos rfl, if_pos rfl]; try rfl) ?_
  refine ur_copyi C h hl.1 (by decide +kernel) (by decide +kernel) (by decide +kernel) (by decide +kernel) 14 14 (by decide) (by decide) (uc_14 E _) (uc_14 E) (1) (0) (11) (by omega) (by omega) (by decide) (by decide) (Nat.le_of_ble_eq_true rfl) (Nat.le_of_ble_eq_true rfl) dX0_loseOldest_54 (fun M_4 H locs eM_4 h => ?_)
  exact ur_vret C h hr hlocks (by subst eM_1; subst eM_2; subst eM_3; subst eM_4; rfl) dX0_loseOldest_57
set_option maxHeartbeats 4000000 in
set_option maxRecDepth 100000 in
theorem k_X0_enter (l : Launch) (E : uE) (hI : uI E) (M : uM) (p0 ps came : Int32) (b : Nat) (hbk : M.1 11 0 = nI b) (hb12 : b ≤ 12) : Met l yX0_enter wsX0_enter ({ frames := 2, cells := 0, slots := 0, locals := 46 }) (va_Pc [.ref (E.2.1 11), .int p0, .int ps, .int came] (uB E M)) (va_Qv (fun u => u = xEnter M b p0 ps came) (uP E) (uA E)) 0 0 (uA E) := by
  have hin0 : ∀ w ∈ wsX00, w ∈ wsX0_enter := by decide +kernel
  refine u_start (cc := cX0_enter) (maxL := 4) (ret := none) hI (by decide) rfl (Nat.le_of_ble_eq_true rfl) ?_
  intro p_ e_ s_ m_ bl_ me_ c_ C hr hlocks h ls hl
  have hx := C.1.1
  have hb := C.1.2.1
  have hown : s_.vm.findClass RX0 = some m_.cls := C.1.2.2.2.1
  have hts := C.1.2.2.2.2
  have hl : lv_has ls 4 [(0, .ref (E.2.1 11)), (1, .int p0), (2, .int ps), (3, .int came)] := hl
  refine lv_aload_n hx hb dX0_enter_0 rfl (lv_at hl 0 rfl) ?_
  refine ur_get C h 11 (by decide) (uc_11 E _) (Cn := RX0) (T := TX0) (N := 4) rfl hin0 0 (by decide) (by decide +kernel) rfl dX0_enter_1 ?_
  refine ur_eq (y := nI b) (hbk) ?_
  refine lv_bipush (v := 12) hx hb dX0_enter_4 (by decide) ?_
  refine lv_icmp_lt (tgt := 13) hx hb dX0_enter_6 (by decide) (fun c_1 => ?_) (fun c_1 => ?_)
  · skip
    have c_1 : b < 12 := (nI_ltI (a := b) (b := 12) (by omega) (by omega)).mp c_1
    refine lv_aload_n hx hb dX0_enter_13 rfl (lv_at hl 0 rfl) ?_
    refine ur_get C h 11 (by decide) (uc_11 E _) (Cn := RX0) (T := TX0) (N := 4) rfl hin0 1 (by decide) (by decide +kernel) rfl dX0_enter_14 ?_
    refine lv_aload_n hx hb dX0_enter_17 rfl (lv_at hl 0 rfl) ?_
    refine ur_get C h 11 (by decide) (uc_11 E _) (Cn := RX0) (T := TX0) (N := 4) rfl hin0 0 (by decide) (by decide +kernel) rfl dX0_enter_18 ?_
    refine ur_eq (y := nI b) (hbk) ?_
    refine lv_iload_n hx hb dX0_enter_21 rfl (lv_at hl 1 rfl) ?_
    refine ur_iast C h 12 (by decide) (uc_12 E) (b) (by omega) (by decide) dX0_enter_22 (fun M_2 H locs eM_2 h => ?_)
    refine lv_aload_n hx hb dX0_enter_23 rfl (lv_at hl 0 rfl) ?_
    refine ur_get C h 11 (by decide) (uc_11 E _) (Cn := RX0) (T := TX0) (N := 4) rfl hin0 2 (by decide) (by decide +kernel) rfl dX0_enter_24 ?_
    refine lv_aload_n hx hb dX0_enter_27 rfl (lv_at hl 0 rfl) ?_
    refine ur_get C h 11 (by decide) (uc_11 E _) (Cn := RX0) (T := TX0) (N := 4) rfl hin0 0 (by decide) (by decide +kernel) rfl dX0_enter_28 ?_
    refine ur_eq (y := nI b) (by rw [eM_2, u_set1, if_neg (by decide)]; exact hbk) ?_
    refine lv_iload_n hx hb dX0_enter_31 rfl (lv_at hl 2 rfl) ?_
    refine ur_iast C h 13 (by decide) (uc_13 E) (b) (by omega) (by decide) dX0_enter_32 (fun M_3 H locs eM_3 h => ?_)
    refine lv_aload_n hx hb dX0_enter_33 rfl (lv_at hl 0 rfl) ?_
    refine ur_get C h 11 (by decide) (uc_11 E _) (Cn := RX0) (T := TX0) (N := 4) rfl hin0 3 (by decide) (by decide +kernel) rfl dX0_enter_34 ?_
    refine lv_aload_n hx hb dX0_enter_37 rfl (lv_at hl 0 rfl) ?_
    refine ur_get C h 11 (by decide) (uc_11 E _) (Cn := RX0) (T := TX0) (N := 4) rfl hin0 0 (by decide) (by decide +kernel) rfl dX0_enter_38 ?_
    refine ur_eq (y := nI b) (by rw [eM_3, u_set1, if_neg (by decide), eM_2, u_set1, if_neg (by decide)]; exact hbk) ?_
    refine lv_iload_n hx hb dX0_enter_41 rfl (lv_at hl 3 rfl) ?_
    refine ur_iast C h 14 (by decide) (uc_14 E) (b) (by omega) (by decide) dX0_enter_42 (fun M_4 H locs eM_4 h => ?_)
    refine lv_aload_n hx hb dX0_enter_43 rfl (lv_at hl 0 rfl) ?_
    refine lv_dup hx hb dX0_enter_44 rfl ?_
    refine ur_get C h 11 (by decide) (uc_11 E _) (Cn := RX0) (T := TX0) (N := 4) rfl hin0 0 (by decide) (by decide +kernel) rfl dX0_enter_45 ?_
    refine ur_eq (y := nI b) (by rw [eM_4, u_set1, if_neg (by decide), eM_3, u_set1, if_neg (by decide), eM_2, u_set1, if_neg (by decide)]; exact hbk) ?_
    refine lv_iconst (v := 1) hx hb dX0_enter_48 (by decide) ?_
    refine lv_iadd hx hb dX0_enter_49 ?_
    refine ur_eq (y := nI (b + 1)) (nI_add b 1) ?_
    refine ur_puti C h 11 (by decide) (uc_11 E _) (Cn := RX0) (T := TX0) (N := 4) rfl hin0 tyX0 tyX0_ok nmX0 0 (by decide) (by decide +kernel) rfl rfl rfl (Nat.le_of_ble_eq_true rfl) (us_11_0 E _ _) dX0_enter_50 (fun M_5 H locs eM_5 h => ?_)
    exact ur_vret C h hr hlocks (by subst eM_2; subst eM_3; subst eM_4; subst eM_5; unfold xEnter; rw [if_pos (by omega)]; rfl) dX0_enter_53
  · skip
    have c_1 : ¬ b < 12 := fun z => c_1 ((nI_ltI (a := b) (b := 12) (by omega) (by omega)).mpr z)
    refine lv_aload_n hx hb dX0_enter_9 rfl (lv_at hl 0 rfl) ?_
    refine ur_callVv C h (k := 11) (As := []) (rest := []) (k_X0_loseOldest l E hI M ) (cwV 0 hts gX0_enter_X0_loseOldest rfl rfl rfl (by decide +kernel) ⟨Nat.le_of_ble_eq_true rfl, Nat.le_of_ble_eq_true rfl⟩) (by decide) (uc_11 E _) (T := TX0) (N := 4) rfl rfl hl.1 rfl (Nat.le_of_ble_eq_true rfl) dX0_enter_10 (fun M_7 H locs hw_7 h => ?_)
    have eM_7 := hw_7
    refine lv_aload_n hx hb dX0_enter_13 rfl (lv_at hl 0 rfl) ?_
    refine ur_get C h 11 (by decide) (uc_11 E _) (Cn := RX0) (T := TX0) (N := 4) rfl hin0 1 (by decide) (by decide +kernel) rfl dX0_enter_14 ?_
    refine lv_aload_n hx hb dX0_enter_17 rfl (lv_at hl 0 rfl) ?_
    refine ur_get C h 11 (by decide) (uc_11 E _) (Cn := RX0) (T := TX0) (N := 4) rfl hin0 0 (by decide) (by decide +kernel) rfl dX0_enter_18 ?_
    refine ur_eq (y := nI 11) ((by rw [eM_7]; rfl)) ?_
    refine lv_iload_n hx hb dX0_enter_21 rfl (lv_at hl 1 rfl) ?_
    refine ur_iast C h 12 (by decide) (uc_12 E) (11) (by decide) (by decide) dX0_enter_22 (fun M_8 H locs eM_8 h => ?_)
    refine lv_aload_n hx hb dX0_enter_23 rfl (lv_at hl 0 rfl) ?_
    refine ur_get C h 11 (by decide) (uc_11 E _) (Cn := RX0) (T := TX0) (N := 4) rfl hin0 2 (by decide) (by decide +kernel) rfl dX0_enter_24 ?_
    refine lv_aload_n hx hb dX0_enter_27 rfl (lv_at hl 0 rfl) ?_
    refine ur_get C h 11 (by decide) (uc_11 E _) (Cn := RX0) (T := TX0) (N := 4) rfl hin0 0 (by decide) (by decide +kernel) rfl dX0_enter_28 ?_
    refine ur_eq (y := nI 11) (by rw [eM_8, u_set1, if_neg (by decide)]; exact (by rw [eM_7]; rfl)) ?_
    refine lv_iload_n hx hb dX0_enter_31 rfl (lv_at hl 2 rfl) ?_
    refine ur_iast C h 13 (by decide) (uc_13 E) (11) (by decide) (by decide) dX0_enter_32 (fun M_9 H locs eM_9 h => ?_)
    refine lv_aload_n hx hb dX0_enter_33 rfl (lv_at hl 0 rfl) ?_
    refine ur_get C h 11 (by decide) (uc_11 E _) (Cn := RX0) (T := TX0) (N := 4) rfl hin0 3 (by decide) (by decide +kernel) rfl dX0_enter_34 ?_
    refine lv_aload_n hx hb dX0_enter_37 rfl (lv_at hl 0 rfl) ?_
    refine ur_get C h 11 (by decide) (uc_11 E _) (Cn := RX0) (T := TX0) (N := 4) rfl hin0 0 (by decide) (by decide +kernel) rfl dX0_enter_38 ?_
    refine ur_eq (y := nI 11) (by rw [eM_9, u_set1, if_neg (by decide), eM_8, u_set1, if_neg (by decide)]; exact (by rw [eM_7]; rfl)) ?_
    refine lv_iload_n hx hb dX0_enter_41 rfl (lv_at hl 3 rfl) ?_
    refine ur_iast C h 14 (by decide) (uc_14 E) (11) (by decide) (by decide) dX0_enter_42 (fun M_10 H locs eM_10 h => ?_)
    refine lv_aload_n hx hb dX0_enter_43 rfl (lv_at hl 0 rfl) ?_
    refine lv_dup hx hb dX0_enter_44 rfl ?_
    refine ur_get C h 11 (by decide) (uc_11 E _) (Cn := RX0) (T := TX0) (N := 4) rfl hin0 0 (by decide) (by decide +kernel) rfl dX0_enter_45 ?_
    refine ur_eq (y := nI 11) (by rw [eM_10, u_set1, if_neg (by decide), eM_9, u_set1, if_neg (by decide), eM_8, u_set1, if_neg (by decide)]; exact (by rw [eM_7]; rfl)) ?_
    refine lv_iconst (v := 1) hx hb dX0_enter_48 (by decide) ?_
    refine lv_iadd hx hb dX0_enter_49 ?_
    refine ur_eq (y := nI (12)) (nI_add 11 1) ?_
    refine ur_puti C h 11 (by decide) (uc_11 E _) (Cn := RX0) (T := TX0) (N := 4) rfl hin0 tyX0 tyX0_ok nmX0 0 (by decide) (by decide +kernel) rfl rfl rfl (Nat.le_of_ble_eq_true rfl) (us_11_0 E _ _) dX0_enter_50 (fun M_11 H locs eM_11 h => ?_)
    exact ur_vret C h hr hlocks (by subst eM_7; subst eM_8; subst eM_9; subst eM_10; subst eM_11; unfold xEnter; rw [if_neg (by omega)]; rfl) dX0_enter_53
set_option maxHeartbeats 4000000 in
set_option maxRecDepth 100000 in
theorem k_X3_nextDraw (l : Launch) (E : uE) (hI : uI E) (M : uM)  : Met l yX3_nextDraw wsX3_nextDraw ({ frames := 0, cells := 0, slots := 0, locals := 0 }) (va_Pc [.ref (E.2.1 7)] (uB E M)) (va_Qi (fun r u => u = xDraw M ∧ r = uLot (u.1 7 5)) (uP E) (uA E)) 0 0 (uA E) := by
  have hin3 : ∀ w ∈ wsX30, w ∈ wsX3_nextDraw := by decide +kernel
  refine u_start (cc := cX3_nextDraw) (maxL := 1) (ret := (some .int)) hI (by decide) rfl (Nat.le_of_ble_eq_true rfl) ?_
  intro p_ e_ s_ m_ bl_ me_ c_ C hr hlocks h ls hl
  have hx := C.1.1
  have hb := C.1.2.1
  have hown : s_.vm.findClass RX3 = some m_.cls := C.1.2.2.2.1
  have hts := C.1.2.2.2.2
  have hl : lv_has ls 1 [(0, .ref (E.2.1 7))] := hl
  refine lv_aload_n hx hb dX3_nextDraw_0 rfl (lv_at hl 0 rfl) ?_
  refine lv_aload_n hx hb dX3_nextDraw_1 rfl (lv_at hl 0 rfl) ?_
  refine ur_get C h 7 (by decide) (uc_7 E _) (Cn := RX3) (T := TX3) (N := 6) rfl hin3 5 (by decide) (by decide +kernel) rfl dX3_nextDraw_2 ?_
  refine lv_ldc (v := 1103515245) hx hb hown (hts (.constant RX3 45 1103515245) (by decide +kernel)) dX3_nextDraw_5 ?_
  refine lv_imul hx hb dX3_nextDraw_7 ?_
  refine lv_sipush (v := 12345) hx hb dX3_nextDraw_8 (by decide) ?_
  refine lv_iadd hx hb dX3_nextDraw_11 ?_
  refine lv_ldc (v := 2147483647) hx hb hown (hts (.constant RX3 46 2147483647) (by decide +kernel)) dX3_nextDraw_12 ?_
  refine lv_iand hx hb dX3_nextDraw_14 ?_
  refine ur_puti C h 7 (by decide) (uc_7 E _) (Cn := RX3) (T := TX3) (N := 6) rfl hin3 tyX3 tyX3_ok nmX3 5 (by decide) (by decide +kernel) rfl rfl rfl (Nat.le_of_ble_eq_true rfl) (us_7_5 E _ _) dX3_nextDraw_15 (fun M_1 H locs eM_1 h => ?_)
  refine lv_aload_n hx hb dX3_nextDraw_18 rfl (lv_at hl 0 rfl) ?_
  refine ur_get C h 7 (by decide) (uc_7 E _) (Cn := RX3) (T := TX3) (N := 6) rfl hin3 5 (by decide) (by decide +kernel) rfl dX3_nextDraw_19 ?_
  refine lv_bipush (v := 16) hx hb dX3_nextDraw_22 (by decide) ?_
  refine lv_idiv hx hb dX3_nextDraw_24 (by decide) ?_
  refine lv_ldc (v := 1000000) hx hb hown (hts (.constant RX3 47 1000000) (by decide +kernel)) dX3_nextDraw_25 ?_
  refine lv_irem hx hb dX3_nextDraw_27 (by decide) ?_
  exact ur_iret C h hr hlocks (by subst eM_1; exact ⟨rfl, rfl⟩) dX3_nextDraw_28
set_option maxHeartbeats 4000000 in
set_option maxRecDepth 100000 in
theorem k_X3_putAsked (l : Launch) (E : uE) (hI : uI E) (M : uM) (p w : Nat) (ps came : Int32) (hp : p < 6) (hw : w < 6) (b : Nat) (hbk : M.1 11 0 = nI b) (hb12 : b ≤ 12) : Met l yX3_putAsked wsX3_putAsked ({ frames := 3, cells := 0, slots := 0, locals := 69 }) (va_Pc [.ref (E.2.1 7), .int (nI p), .int (nI w), .int ps, .int came] (uB E M)) (va_Qv (fun u => u = xPut M b p w ps came) (uP E) (uA E)) 0 0 (uA E) := by
  have hin3 : ∀ w ∈ wsX30, w ∈ wsX3_putAsked := by decide +kernel
  refine u_start (cc := cX3_putAsked) (maxL := 5) (ret := none) hI (by decide) rfl (Nat.le_of_ble_eq_true rfl) ?_
  intro p_ e_ s_ m_ bl_ me_ c_ C hr hlocks h ls hl
  have hx := C.1.1
  have hb := C.1.2.1
  have hown : s_.vm.findClass RX3 = some m_.cls := C.1.2.2.2.1
  have hts := C.1.2.2.2.2
  have hl : lv_has ls 5 [(0, .ref (E.2.1 7)), (1, .int (nI p)), (2, .int (nI w)), (3, .int ps), (4, .int came)] := hl
  refine lv_aload_n hx hb dX3_putAsked_0 rfl (lv_at hl 0 rfl) ?_
  refine ur_get C h 7 (by decide) (uc_7 E _) (Cn := RX3) (T := TX3) (N := 6) rfl hin3 0 (by decide) (by decide +kernel) rfl dX3_putAsked_1 ?_
  refine lv_iload_n hx hb dX3_putAsked_4 rfl (lv_at hl 1 rfl) ?_
  refine lv_iload hx hb dX3_putAsked_5 (lv_at hl 4 rfl) ?_
  refine ur_iast C h 8 (by decide) (uc_8 E) (p) (by omega) (by decide) dX3_putAsked_7 (fun M_1 H locs eM_1 h => ?_)
  refine lv_aload_n hx hb dX3_putAsked_8 rfl (lv_at hl 0 rfl) ?_
  refine ur_get C h 7 (by decide) (uc_7 E _) (Cn := RX3) (T := TX3) (N := 6) rfl hin3 2 (by decide) (by decide +kernel) rfl dX3_putAsked_9 ?_
  refine lv_iload_n hx hb dX3_putAsked_12 rfl (lv_at hl 2 rfl) ?_
  refine lv_dup2_11 hx hb dX3_putAsked_13 rfl rfl ?_
  refine ur_iald C h 10 (by decide) (uc_10 E _) (w) (by omega) (by decide) dX3_putAsked_14 ?_
  refine lv_iconst (v := 1) hx hb dX3_putAsked_15 (by decide) ?_
  refine lv_iadd hx hb dX3_putAsked_16 ?_
  refine ur_iast C h 10 (by decide) (uc_10 E) (w) (by omega) (by decide) dX3_putAsked_17 (fun M_2 H locs eM_2 h => ?_)
  refine lv_aload_n hx hb dX3_putAsked_18 rfl (lv_at hl 0 rfl) ?_
  refine lv_dup hx hb dX3_putAsked_19 rfl ?_
  refine ur_get C h 7 (by decide) (uc_7 E _) (Cn := RX3) (T := TX3) (N := 6) rfl hin3 4 (by decide) (by decide +kernel) rfl dX3_putAsked_20 ?_
  refine lv_iconst (v := 1) hx hb dX3_putAsked_23 (by decide) ?_
  refine lv_iadd hx hb dX3_putAsked_24 ?_
  refine ur_puti C h 7 (by decide) (uc_7 E _) (Cn := RX3) (T := TX3) (N := 6) rfl hin3 tyX3 tyX3_ok nmX3 4 (by decide) (by decide +kernel) rfl rfl rfl (Nat.le_of_ble_eq_true rfl) (us_7_4 E _ _) dX3_putAsked_25 (fun M_3 H locs eM_3 h => ?_)
  refine lv_aload_n hx hb dX3_putAsked_28 rfl (lv_at hl 0 rfl) ?_
  refine ur_get C h 7 (by decide) (uc_7 E _) (Cn := RX3) (T := TX3) (N := 6) rfl hin3 3 (by decide) (by decide +kernel) rfl dX3_putAsked_29 ?_
  refine lv_iload_n hx hb dX3_putAsked_32 rfl (lv_at hl 1 rfl) ?_
  refine lv_iload_n hx hb dX3_putAsked_33 rfl (lv_at hl 3 rfl) ?_
  refine lv_iload hx hb dX3_putAsked_34 (lv_at hl 4 rfl) ?_
  refine ur_callVv C h (k := 11) (As := [.int (nI p), .int ps, .int came]) (rest := []) (k_X0_enter l E hI M_3 (nI p) ps came b (by rw [eM_3, u_set1, if_neg (by decide), eM_2, u_set1, if_neg (by decide), eM_1, u_set1, if_neg (by decide)]; exact hbk) (by omega)) (cwV 3 hts gX3_putAsked_X0_enter rfl rfl rfl (by decide +kernel) ⟨Nat.le_of_ble_eq_true rfl, Nat.le_of_ble_eq_true rfl⟩) (by decide) (uc_11 E _) (T := TX0) (N := 4) rfl rfl hl.1 rfl (Nat.le_of_ble_eq_true rfl) dX3_putAsked_36 (fun M_5 H locs hw_5 h => ?_)
  have eM_5 := hw_5
  exact ur_vret C h hr hlocks (by subst eM_1; subst eM_2; subst eM_3; subst eM_5; rfl) dX3_putAsked_39
