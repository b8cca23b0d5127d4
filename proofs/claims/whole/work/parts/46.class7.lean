set_option maxHeartbeats 1000000 in
set_option maxRecDepth 100000 in
theorem k_X6_whyNotAsked (l : Launch) (E : uE) (hI : uI E) (M : uM) (x1 x2 : Int32) (n : Nat) (hn : M.1 1 0 = nI n) (hn6 : n ≤ 6) (nw : Nat) (hnw : M.1 1 4 = nI nw) (hnw6 : nw ≤ 6) : Met l yX6_whyNotAsked wsX6_whyNotAsked ({ frames := 2, cells := 0, slots := 0, locals := 43 }) (va_Pc [.ref (E.2.1 0), .int x1, .int x2] (uB E M)) (va_Qi (fun r u => M = u ∧ r = xWhy M n nw x1 x2) (uP E) (uA E)) 0 0 (uA E) := by
  have hin1 : ∀ w ∈ wsX10, w ∈ wsX6_whyNotAsked := by decide +kernel
  have hin3 : ∀ w ∈ wsX30, w ∈ wsX6_whyNotAsked := by decide +kernel
  have hin6 : ∀ w ∈ wsX60, w ∈ wsX6_whyNotAsked := by decide +kernel
  refine u_start (cc := cX6_whyNotAsked) (maxL := 3) (ret := (some .int)) hI (by decide) rfl (Nat.le_of_ble_eq_true rfl) ?_
  intro p_ e_ s_ m_ bl_ me_ c_ C hr hlocks h ls hl
  have hx := C.1.1
  have hb := C.1.2.1
  have hown : s_.vm.findClass RX6 = some m_.cls := C.1.2.2.2.1
  have hts := C.1.2.2.2.2
  have hl : lv_has ls 3 [(0, .ref (E.2.1 0)), (1, .int x1), (2, .int x2)] := hl
  refine lv_aload_n hx hb dX6_whyNotAsked_0 rfl (lv_at hl 0 rfl) ?_
  refine lv_iload_n hx hb dX6_whyNotAsked_1 rfl (lv_at hl 1 rfl) ?_
  refine ur_callVi C h (k := 0) (As := [.int x1]) (rest := []) (k_X6_isSpeaker l E hI M x1 n hn hn6) (cwV 1 hts gX6_whyNotAsked_X6_isSpeaker rfl rfl rfl (by decide +kernel) ⟨Nat.le_of_ble_eq_true rfl, Nat.le_of_ble_eq_true rfl⟩) (by decide) (uc_0 E _) (T := TX6) (N := 6) rfl rfl hl.1 rfl (Nat.le_of_ble_eq_true rfl) dX6_whyNotAsked_2 (fun r_1 M_2 H locs hw_2 h => ?_)
  obtain ⟨hu, er_1⟩ := hw_2
  subst hu
  refine lv_if_eq (tgt := 16) hx hb dX6_whyNotAsked_5 (by decide) (fun c_3 => ?_) (fun c_3 => ?_)
  · skip
    have c_3 : ¬ (0 ≤ x1.toInt ∧ x1.toInt < n) := uz_f er_1 c_3
    refine lv_iconst (v := (-1)) hx hb dX6_whyNotAsked_16 (by decide) ?_
    exact ur_iret C h hr hlocks (⟨rfl, by unfold xWhy; rw [if_neg (by omega)]⟩) dX6_whyNotAsked_17
  · skip
    have c_3 : 0 ≤ x1.toInt ∧ x1.toInt < n := uz_t er_1 c_3
    refine lv_aload_n hx hb dX6_whyNotAsked_8 rfl (lv_at hl 0 rfl) ?_
    refine lv_iload_n hx hb dX6_whyNotAsked_9 rfl (lv_at hl 2 rfl) ?_
    refine ur_callVi C h (k := 0) (As := [.int x2]) (rest := []) (k_X6_isWord l E hI M x2 nw hnw hnw6) (cwV 1 hts gX6_whyNotAsked_X6_isWord rfl rfl rfl (by decide +kernel) ⟨Nat.le_of_ble_eq_true rfl, Nat.le_of_ble_eq_true rfl⟩) (by decide) (uc_0 E _) (T := TX6) (N := 6) rfl rfl hl.1 rfl (Nat.le_of_ble_eq_true rfl) dX6_whyNotAsked_10 (fun r_4 M_5 H locs hw_5 h => ?_)
    obtain ⟨hu, er_4⟩ := hw_5
    subst hu
    refine lv_if_ne (tgt := 18) hx hb dX6_whyNotAsked_13 (by decide) (fun c_6 => ?_) (fun c_6 => ?_)
    · skip
      have c_6 : 0 ≤ x2.toInt ∧ x2.toInt < nw := uz_t er_4 c_6
      obtain ⟨hnx1, enx1⟩ := u_tn c_3 (by omega)
      refine lv_aload_n hx hb dX6_whyNotAsked_18 rfl (lv_at hl 0 rfl) ?_
      refine ur_get C h 0 (by decide) (uc_0 E _) (Cn := RX6) (T := TX6) (N := 6) rfl hin6 0 (by decide) (by decide +kernel) rfl dX6_whyNotAsked_19 ?_
      refine ur_get C h 1 (by decide) (uc_1 E _) (Cn := RX1) (T := TX1) (N := 11) rfl hin1 8 (by decide) (by decide +kernel) rfl dX6_whyNotAsked_22 ?_
      refine ur_get C h 7 (by decide) (uc_7 E _) (Cn := RX3) (T := TX3) (N := 6) rfl hin3 0 (by decide) (by decide +kernel) rfl dX6_whyNotAsked_25 ?_
      refine lv_iload_n hx hb dX6_whyNotAsked_28 rfl (lv_at hl 1 rfl) ?_
      refine ur_eq (y := nI (tn x1)) enx1 ?_
      refine ur_iald C h 8 (by decide) (uc_8 E _) (tn x1) (by omega) (by decide) dX6_whyNotAsked_29 ?_
      refine lv_if_eq (tgt := 36) hx hb dX6_whyNotAsked_30 (by decide) (fun c_7 => ?_) (fun c_7 => ?_)
      · skip
        refine lv_aload_n hx hb dX6_whyNotAsked_36 rfl (lv_at hl 0 rfl) ?_
        refine ur_get C h 0 (by decide) (uc_0 E _) (Cn := RX6) (T := TX6) (N := 6) rfl hin6 0 (by decide) (by decide +kernel) rfl dX6_whyNotAsked_37 ?_
        refine ur_get C h 1 (by decide) (uc_1 E _) (Cn := RX1) (T := TX1) (N := 11) rfl hin1 8 (by decide) (by decide +kernel) rfl dX6_whyNotAsked_40 ?_
        refine ur_get C h 7 (by decide) (uc_7 E _) (Cn := RX3) (T := TX3) (N := 6) rfl hin3 4 (by decide) (by decide +kernel) rfl dX6_whyNotAsked_43 ?_
        refine lv_sipush (v := 9999) hx hb dX6_whyNotAsked_46 (by decide) ?_
        refine lv_icmp_lt (tgt := 57) hx hb dX6_whyNotAsked_49 (by decide) (fun c_8 => ?_) (fun c_8 => ?_)
        · skip
          refine lv_iconst (v := 0) hx hb dX6_whyNotAsked_57 (by decide) ?_
          exact ur_iret C h hr hlocks (⟨rfl, by unfold xWhy; rw [if_pos (by omega)]; simp [c_7, c_8]⟩) dX6_whyNotAsked_58
        · skip
          refine lv_bipush (v := (-3)) hx hb dX6_whyNotAsked_52 (by decide) ?_
          refine lv_goto (tgt := 58) hx hb dX6_whyNotAsked_54 (by decide) ?_
          exact ur_iret C h hr hlocks (⟨rfl, by unfold xWhy; rw [if_pos (by omega)]; simp [c_7, c_8]⟩) dX6_whyNotAsked_58
      · skip
        refine lv_bipush (v := (-2)) hx hb dX6_whyNotAsked_33 (by decide) ?_
        exact ur_iret C h hr hlocks (⟨rfl, by unfold xWhy; rw [if_pos (by omega)]; simp [c_7]⟩) dX6_whyNotAsked_35
    · skip
      have c_6 : ¬ (0 ≤ x2.toInt ∧ x2.toInt < nw) := uz_f er_4 c_6
      refine lv_iconst (v := (-1)) hx hb dX6_whyNotAsked_16 (by decide) ?_
      exact ur_iret C h hr hlocks (⟨rfl, by unfold xWhy; rw [if_neg (by omega)]⟩) dX6_whyNotAsked_17
set_option maxHeartbeats 1000000 in
set_option maxRecDepth 100000 in
theorem k_X6_ask (l : Launch) (E : uE) (hI : uI E) (M : uM) (x1 x2 : Int32) (n : Nat) (hn : M.1 1 0 = nI n) (hn6 : n ≤ 6) (nw : Nat) (hnw : M.1 1 4 = nI nw) (hnw6 : nw ≤ 6) (ht : ¬ M.1 1 7 = 0) (k : Nat) (hk : M.1 1 10 = nI k) (hk8 : k ≤ 8) (b : Nat) (hbk : M.1 11 0 = nI b) (hb12 : b ≤ 12) (hP : xPast M) (hP15 : ∀ i, i < 8 → 15 ≤ M.2.2 6 i) : Met l yX6_ask wsX6_ask ({ frames := 6, cells := 0, slots := 0, locals := 142 }) (va_Pc [.ref (E.2.1 0), .int x1, .int x2] (uB E M)) (va_Qi (fun r u => if xWhy M n nw x1 x2 = 0 then (u = xPut (xDraw (xRem M k)) b (tn x1) (tn x2) (xPassIn M (tn x1) (tn x2) (M.1 7 4)) (xCame ((xDraw (xRem M k)).1 7 5) (xPassIn M (tn x1) (tn x2) (M.1 7 4))) ∧ r = if xCame ((xDraw (xRem M k)).1 7 5) (xPassIn M (tn x1) (tn x2) (M.1 7 4)) = 1 then 1 else 0) else M = u ∧ r = xWhy M n nw x1 x2) (uP E) (uA E)) 0 0 (uA E) := by
  have hin1 : ∀ w ∈ wsX10, w ∈ wsX6_ask := by decide +kernel
  have hin6 : ∀ w ∈ wsX60, w ∈ wsX6_ask := by decide +kernel
  refine u_start (cc := cX6_ask) (maxL := 6) (ret := (some .int)) hI (by decide) rfl (Nat.le_of_ble_eq_true rfl) ?_
  intro p_ e_ s_ m_ bl_ me_ c_ C hr hlocks h ls hl
  have hx := C.1.1
  have hb := C.1.2.1
  have hown : s_.vm.findClass RX6 = some m_.cls := C.1.2.2.2.1
  have hts := C.1.2.2.2.2
  have hl : lv_has ls 6 [(0, .ref (E.2.1 0)), (1, .int x1), (2, .int x2)] := hl
  refine lv_aload_n hx hb dX6_ask_0 rfl (lv_at hl 0 rfl) ?_
  refine lv_iload_n hx hb dX6_ask_1 rfl (lv_at hl 1 rfl) ?_
  refine lv_iload_n hx hb dX6_ask_2 rfl (lv_at hl 2 rfl) ?_
  refine ur_callVi C h (k := 0) (As := [.int x1, .int x2]) (rest := []) (k_X6_whyNotAsked l E hI M x1 x2 n hn hn6 nw hnw hnw6) (cwV 2 hts gX6_ask_X6_whyNotAsked rfl rfl rfl (by decide +kernel) ⟨Nat.le_of_ble_eq_true rfl, Nat.le_of_ble_eq_true rfl⟩) (by decide) (uc_0 E _) (T := TX6) (N := 6) rfl rfl hl.1 rfl (Nat.le_of_ble_eq_true rfl) dX6_ask_3 (fun r_1 M_2 H locs hw_2 h => ?_)
  obtain ⟨hu, er_1⟩ := hw_2
  subst hu
  refine ur_eq (y := xWhy M n nw x1 x2) er_1 ?_
  refine lv_istore_n (lv' := [(3, .int (xWhy M n nw x1 x2)), (0, .ref (E.2.1 0)), (1, .int x1), (2, .int x2)]) hx hb dX6_ask_6 rfl hl (by decide) rfl (fun ls hl => ?_)
  refine lv_iload_n hx hb dX6_ask_7 rfl (lv_at hl 0 rfl) ?_
  refine lv_if_eq (tgt := 13) hx hb dX6_ask_8 (by decide) (fun c_3 => ?_) (fun c_3 => ?_)
  · skip
    have hwy : xWhy M n nw x1 x2 = 0 := c_3
    obtain ⟨hsp, hwd⟩ := xWhy_ok hwy
    obtain ⟨hnx1, enx1⟩ := u_tn hsp (by omega)
    obtain ⟨hnx2, enx2⟩ := u_tn hwd (by omega)
    refine lv_aload_n hx hb dX6_ask_13 rfl (lv_at hl 1 rfl) ?_
    refine ur_get C h 0 (by decide) (uc_0 E _) (Cn := RX6) (T := TX6) (N := 6) rfl hin6 0 (by decide) (by decide +kernel) rfl dX6_ask_14 ?_
    refine lv_iload_n hx hb dX6_ask_17 rfl (lv_at hl 2 rfl) ?_
    refine ur_eq (y := nI (tn x1)) enx1 ?_
    refine lv_iload_n hx hb dX6_ask_18 rfl (lv_at hl 3 rfl) ?_
    refine ur_eq (y := nI (tn x2)) enx2 ?_
    refine ur_callVi C h (k := 1) (As := [.int (nI (tn x1)), .int (nI (tn x2))]) (rest := []) (k_X1_passNow l E hI M (tn x1) (tn x2) (by omega) (by omega) ht) (cwV 2 hts gX6_ask_X1_passNow rfl rfl rfl (by decide +kernel) ⟨Nat.le_of_ble_eq_true rfl, Nat.le_of_ble_eq_true rfl⟩) (by decide) (uc_1 E _) (T := TX1) (N := 11) rfl rfl hl.1 rfl (Nat.le_of_ble_eq_true rfl) dX6_ask_19 (fun r_4 M_5 H locs hw_5 h => ?_)
    obtain ⟨hu, er_4⟩ := hw_5
    subst hu
    refine ur_eq (y := xPassIn M (tn x1) (tn x2) (M.1 7 4)) er_4 ?_
    refine lv_topi (fun v_6 ev_6 => ?_)
    refine lv_istore (lv' := [(4, .int v_6), (3, .int (xWhy M n nw x1 x2)), (0, .ref (E.2.1 0)), (1, .int x1), (2, .int x2)]) hx hb dX6_ask_22 hl (by decide) rfl (fun ls hl => ?_)
    refine lv_aload_n hx hb dX6_ask_24 rfl (lv_at hl 2 rfl) ?_
    refine ur_get C h 0 (by decide) (uc_0 E _) (Cn := RX6) (T := TX6) (N := 6) rfl hin6 0 (by decide) (by decide +kernel) rfl dX6_ask_25 ?_
    refine ur_callVv C h (k := 1) (As := []) (rest := []) (k_X1_remember l E hI M k hk hk8 hP) (cwV 0 hts gX6_ask_X1_remember rfl rfl rfl (by decide +kernel) ⟨Nat.le_of_ble_eq_true rfl, Nat.le_of_ble_eq_true rfl⟩) (by decide) (uc_1 E _) (T := TX1) (N := 11) rfl rfl hl.1 rfl (Nat.le_of_ble_eq_true rfl) dX6_ask_28 (fun M_8 H locs hw_8 h => ?_)
    have eM_8 := hw_8
    refine lv_aload_n hx hb dX6_ask_31 rfl (lv_at hl 2 rfl) ?_
    refine ur_get C h 0 (by decide) (uc_0 E _) (Cn := RX6) (T := TX6) (N := 6) rfl hin6 0 (by decide) (by decide +kernel) rfl dX6_ask_32 ?_
    refine ur_get C h 1 (by decide) (uc_1 E _) (Cn := RX1) (T := TX1) (N := 11) rfl hin1 8 (by decide) (by decide +kernel) rfl dX6_ask_35 ?_
    refine ur_callVi C h (k := 7) (As := []) (rest := []) (k_X3_nextDraw l E hI M_8 ) (cwV 0 hts gX6_ask_X3_nextDraw rfl rfl rfl (by decide +kernel) ⟨Nat.le_of_ble_eq_true rfl, Nat.le_of_ble_eq_true rfl⟩) (by decide) (uc_7 E _) (T := TX3) (N := 6) rfl rfl hl.1 rfl (Nat.le_of_ble_eq_true rfl) dX6_ask_38 (fun r_9 M_10 H locs hw_10 h => ?_)
    obtain ⟨eM_10, er_9⟩ := hw_10
    refine ur_eq (y := uLot (M_10.1 7 5)) er_9 ?_
    refine lv_iload hx hb dX6_ask_41 (lv_at hl 0 rfl) ?_
    refine lv_icmp_ge (tgt := 50) hx hb dX6_ask_43 (by decide) (fun c_11 => ?_) (fun c_11 => ?_)
    · skip
      refine lv_iconst (v := 2) hx hb dX6_ask_50 (by decide) ?_
      refine lv_istore (lv' := [(5, .int 2), (4, .int v_6), (3, .int (xWhy M n nw x1 x2)), (0, .ref (E.2.1 0)), (1, .int x1), (2, .int x2)]) hx hb dX6_ask_51 hl (by decide) rfl (fun ls hl => ?_)
      refine lv_aload_n hx hb dX6_ask_53 rfl (lv_at hl 3 rfl) ?_
      refine ur_get C h 0 (by decide) (uc_0 E _) (Cn := RX6) (T := TX6) (N := 6) rfl hin6 0 (by decide) (by decide +kernel) rfl dX6_ask_54 ?_
      refine ur_get C h 1 (by decide) (uc_1 E _) (Cn := RX1) (T := TX1) (N := 11) rfl hin1 8 (by decide) (by decide +kernel) rfl dX6_ask_57 ?_
      refine lv_iload_n hx hb dX6_ask_60 rfl (lv_at hl 4 rfl) ?_
      refine ur_eq (y := nI (tn x1)) enx1 ?_
      refine lv_iload_n hx hb dX6_ask_61 rfl (lv_at hl 5 rfl) ?_
      refine ur_eq (y := nI (tn x2)) enx2 ?_
      refine lv_iload hx hb dX6_ask_62 (lv_at hl 1 rfl) ?_
      refine lv_iload hx hb dX6_ask_64 (lv_at hl 0 rfl) ?_
      refine ur_callVv C h (k := 7) (As := [.int (nI (tn x1)), .int (nI (tn x2)), .int v_6, .int 2]) (rest := []) (k_X3_putAsked l E hI M_10 (tn x1) (tn x2) v_6 2 (by omega) (by omega) b (by rw [eM_10]; show M_8.1 11 0 = nI b; exact (by rw [eM_8, xRem_14 hP15 hk8 (by decide) (by decide)]; exact hbk)) hb12) (cwV 4 hts gX6_ask_X3_putAsked rfl rfl rfl (by decide +kernel) ⟨Nat.le_of_ble_eq_true rfl, Nat.le_of_ble_eq_true rfl⟩) (by decide) (uc_7 E _) (T := TX3) (N := 6) rfl rfl hl.1 rfl (Nat.le_of_ble_eq_true rfl) dX6_ask_66 (fun M_13 H locs hw_13 h => ?_)
      have eM_13 := hw_13
      refine lv_iload hx hb dX6_ask_69 (lv_at hl 0 rfl) ?_
      refine lv_iconst (v := 1) hx hb dX6_ask_71 (by decide) ?_
      refine lv_icmp_ne (tgt := 79) hx hb dX6_ask_72 (by decide) (fun c_14 => ?_) (fun z => absurd z (by decide))
      refine lv_iconst (v := 0) hx hb dX6_ask_79 (by decide) ?_
      exact ur_iret C h hr hlocks (by subst ev_6; subst eM_8; subst eM_10; subst eM_13; rw [if_pos hwy]; have hcm : xCame ((xDraw (xRem M k)).1 7 5) (xPassIn M (tn x1) (tn x2) (M.1 7 4)) = 2 := if_pos c_11; rw [hcm]; exact ⟨rfl, rfl⟩) dX6_ask_80
    · skip
      refine lv_iconst (v := 1) hx hb dX6_ask_46 (by decide) ?_
      refine lv_goto (tgt := 51) hx hb dX6_ask_47 (by decide) ?_
      refine lv_istore (lv' := [(5, .int 1), (4, .int v_6), (3, .int (xWhy M n nw x1 x2)), (0, .ref (E.2.1 0)), (1, .int x1), (2, .int x2)]) hx hb dX6_ask_51 hl (by decide) rfl (fun ls hl => ?_)
      refine lv_aload_n hx hb dX6_ask_53 rfl (lv_at hl 3 rfl) ?_
      refine ur_get C h 0 (by decide) (uc_0 E _) (Cn := RX6) (T := TX6) (N := 6) rfl hin6 0 (by decide) (by decide +kernel) rfl dX6_ask_54 ?_
      refine ur_get C h 1 (by decide) (uc_1 E _) (Cn := RX1) (T := TX1) (N := 11) rfl hin1 8 (by decide) (by decide +kernel) rfl dX6_ask_57 ?_
      refine lv_iload_n hx hb dX6_ask_60 rfl (lv_at hl 4 rfl) ?_
      refine ur_eq (y := nI (tn x1)) enx1 ?_
      refine lv_iload_n hx hb dX6_ask_61 rfl (lv_at hl 5 rfl) ?_
      refine ur_eq (y := nI (tn x2)) enx2 ?_
      refine lv_iload hx hb dX6_ask_62 (lv_at hl 1 rfl) ?_
      refine lv_iload hx hb dX6_ask_64 (lv_at hl 0 rfl) ?_
      refine ur_callVv C h (k := 7) (As := [.int (nI (tn x1)), .int (nI (tn x2)), .int v_6, .int 1]) (rest := []) (k_X3_putAsked l E hI M_10 (tn x1) (tn x2) v_6 1 (by omega) (by omega) b (by rw [eM_10]; show M_8.1 11 0 = nI b; exact (by rw [eM_8, xRem_14 hP15 hk8 (by decide) (by decide)]; exact hbk)) hb12) (cwV 4 hts gX6_ask_X3_putAsked rfl rfl rfl (by decide +kernel) ⟨Nat.le_of_ble_eq_true rfl, Nat.le_of_ble_eq_true rfl⟩) (by decide) (uc_7 E _) (T := TX3) (N := 6) rfl rfl hl.1 rfl (Nat.le_of_ble_eq_true rfl) dX6_ask_66 (fun M_16 H locs hw_16 h => ?_)
      have eM_16 := hw_16
      refine lv_iload hx hb dX6_ask_69 (lv_at hl 0 rfl) ?_
      refine lv_iconst (v := 1) hx hb dX6_ask_71 (by decide) ?_
      refine lv_icmp_ne (tgt := 79) hx hb dX6_ask_72 (by decide) (fun z => absurd z (by decide)) (fun c_17 => ?_)
      refine lv_iconst (v := 1) hx hb dX6_ask_75 (by decide) ?_
      refine lv_goto (tgt := 80) hx hb dX6_ask_76 (by decide) ?_
      exact ur_iret C h hr hlocks (by subst ev_6; subst eM_8; subst eM_10; subst eM_16; rw [if_pos hwy]; have hcm : xCame ((xDraw (xRem M k)).1 7 5) (xPassIn M (tn x1) (tn x2) (M.1 7 4)) = 1 := if_neg c_11; rw [hcm]; exact ⟨rfl, rfl⟩) dX6_ask_80
  · skip
    refine lv_iload_n hx hb dX6_ask_11 rfl (lv_at hl 0 rfl) ?_
    exact ur_iret C h hr hlocks (by rw [if_neg (by assumption)]; exact ⟨rfl, rfl⟩) dX6_ask_12
set_option maxHeartbeats 1000000 in
set_option maxRecDepth 100000 in
theorem k_X6_said (l : Launch) (E : uE) (hI : uI E) (M : uM) (x1 x2 x3 : Int32) (n : Nat) (hn : M.1 1 0 = nI n) (hn6 : n ≤ 6) (nw : Nat) (hnw : M.1 1 4 = nI nw) (hnw6 : nw ≤ 6) (ht : ¬ M.1 1 7 = 0) (k : Nat) (hk : M.1 1 10 = nI k) (hk8 : k ≤ 8) (b : Nat) (hbk : M.1 11 0 = nI b) (hb12 : b ≤ 12) (hP : xPast M) (hP15 : ∀ i, i < 8 → 15 ≤ M.2.2 6 i) : Met l yX6_said wsX6_said ({ frames := 6, cells := 0, slots := 0, locals := 142 }) (va_Pc [.ref (E.2.1 0), .int x1, .int x2, .int x3] (uB E M)) (va_Qi (fun r u => if 0 ≤ x3.toInt ∧ x3.toInt ≤ 1 then (if xWhy M n nw x1 x2 = 0 then (u = xPut (xRem M k) b (tn x1) (tn x2) (xPassIn M (tn x1) (tn x2) (M.1 7 4)) (if x3 = 1 then 1 else 2) ∧ r = xPassIn M (tn x1) (tn x2) (M.1 7 4)) else M = u ∧ r = xWhy M n nw x1 x2) else r = -1 ∧ M = u) (uP E) (uA E)) 0 0 (uA E) := by
  have hin1 : ∀ w ∈ wsX10, w ∈ wsX6_said := by decide +kernel
  have hin6 : ∀ w ∈ wsX60, w ∈ wsX6_said := by decide +kernel
  refine u_start (cc := cX6_said) (maxL := 6) (ret := (some .int)) hI (by decide) rfl (Nat.le_of_ble_eq_true rfl) ?_
  intro p_ e_ s_ m_ bl_ me_ c_ C hr hlocks h ls hl
  have hx := C.1.1
  have hb := C.1.2.1
  have hown : s_.vm.findClass RX6 = some m_.cls := C.1.2.2.2.1
  have hts := C.1.2.2.2.2
  have hl : lv_has ls 6 [(0, .ref (E.2.1 0)), (1, .int x1), (2, .int x2), (3, .int x3)] := hl
  refine lv_iload_n hx hb dX6_said_0 rfl (lv_at hl 3 rfl) ?_
  refine lv_iconst (v := 0) hx hb dX6_said_1 (by decide) ?_
  refine lv_iconst (v := 1) hx hb dX6_said_2 (by decide) ?_
  refine ur_callSi C h (As := [.int x3, .int 0, .int 1]) (rest := []) (k_X6_isIn l E hI M x3 0 1) (va_cwS 3 hts gX6_said_X6_isIn rfl rfl rfl (by decide +kernel) ⟨Nat.le_of_ble_eq_true rfl, Nat.le_of_ble_eq_true rfl⟩) rfl hl.1 rfl (Nat.le_of_ble_eq_true rfl) dX6_said_3 (fun r_1 M_2 H locs hw_2 h => ?_)
  obtain ⟨hu, er_1⟩ := hw_2
  subst hu
  have er_1 : r_1 = if 0 ≤ x3.toInt ∧ x3.toInt ≤ 1 then 1 else 0 := u_in32 (x := x3.toInt) rfl rfl rfl er_1
  refine lv_if_ne (tgt := 11) hx hb dX6_said_6 (by decide) (fun c_3 => ?_) (fun c_3 => ?_)
  · skip
    have c_3 : 0 ≤ x3.toInt ∧ x3.toInt ≤ 1 := uz_t er_1 c_3
    refine lv_aload_n hx hb dX6_said_11 rfl (lv_at hl 0 rfl) ?_
    refine lv_iload_n hx hb dX6_said_12 rfl (lv_at hl 1 rfl) ?_
    refine lv_iload_n hx hb dX6_said_13 rfl (lv_at hl 2 rfl) ?_
    refine ur_callVi C h (k := 0) (As := [.int x1, .int x2]) (rest := []) (k_X6_whyNotAsked l E hI M x1 x2 n hn hn6 nw hnw hnw6) (cwV 2 hts gX6_said_X6_whyNotAsked rfl rfl rfl (by decide +kernel) ⟨Nat.le_of_ble_eq_true rfl, Nat.le_of_ble_eq_true rfl⟩) (by decide) (uc_0 E _) (T := TX6) (N := 6) rfl rfl hl.1 rfl (Nat.le_of_ble_eq_true rfl) dX6_said_14 (fun r_4 M_5 H locs hw_5 h => ?_)
    obtain ⟨hu, er_4⟩ := hw_5
    subst hu
    refine ur_eq (y := xWhy M n nw x1 x2) er_4 ?_
    refine lv_istore (lv' := [(4, .int (xWhy M n nw x1 x2)), (0, .ref (E.2.1 0)), (1, .int x1), (2, .int x2), (3, .int x3)]) hx hb dX6_said_17 hl (by decide) rfl (fun ls hl => ?_)
    refine lv_iload hx hb dX6_said_19 (lv_at hl 0 rfl) ?_
    refine lv_if_eq (tgt := 27) hx hb dX6_said_21 (by decide) (fun c_6 => ?_) (fun c_6 => ?_)
    · skip
      have hwy : xWhy M n nw x1 x2 = 0 := c_6
      obtain ⟨hsp, hwd⟩ := xWhy_ok hwy
      obtain ⟨hnx1, enx1⟩ := u_tn hsp (by omega)
      obtain ⟨hnx2, enx2⟩ := u_tn hwd (by omega)
      refine lv_aload_n hx hb dX6_said_27 rfl (lv_at hl 1 rfl) ?_
      refine ur_get C h 0 (by decide) (uc_0 E _) (Cn := RX6) (T := TX6) (N := 6) rfl hin6 0 (by decide) (by decide +kernel) rfl dX6_said_28 ?_
      refine lv_iload_n hx hb dX6_said_31 rfl (lv_at hl 2 rfl) ?_
      refine ur_eq (y := nI (tn x1)) enx1 ?_
      refine lv_iload_n hx hb dX6_said_32 rfl (lv_at hl 3 rfl) ?_
      refine ur_eq (y := nI (tn x2)) enx2 ?_
      refine ur_callVi C h (k := 1) (As := [.int (nI (tn x1)), .int (nI (tn x2))]) (rest := []) (k_X1_passNow l E hI M (tn x1) (tn x2) (by omega) (by omega) ht) (cwV 2 hts gX6_said_X1_passNow rfl rfl rfl (by decide +kernel) ⟨Nat.le_of_ble_eq_true rfl, Nat.le_of_ble_eq_true rfl⟩) (by decide) (uc_1 E _) (T := TX1) (N := 11) rfl rfl hl.1 rfl (Nat.le_of_ble_eq_true rfl) dX6_said_33 (fun r_7 M_8 H locs hw_8 h => ?_)
      obtain ⟨hu, er_7⟩ := hw_8
      subst hu
      refine ur_eq (y := xPassIn M (tn x1) (tn x2) (M.1 7 4)) er_7 ?_
      refine lv_topi (fun v_9 ev_9 => ?_)
      refine lv_istore (lv' := [(5, .int v_9), (4, .int (xWhy M n nw x1 x2)), (0, .ref (E.2.1 0)), (1, .int x1), (2, .int x2), (3, .int x3)]) hx hb dX6_said_36 hl (by decide) rfl (fun ls hl => ?_)
      refine lv_aload_n hx hb dX6_said_38 rfl (lv_at hl 2 rfl) ?_
      refine ur_get C h 0 (by decide) (uc_0 E _) (Cn := RX6) (T := TX6) (N := 6) rfl hin6 0 (by decide) (by decide +kernel) rfl dX6_said_39 ?_
      refine ur_callVv C h (k := 1) (As := []) (rest := []) (k_X1_remember l E hI M k hk hk8 hP) (cwV 0 hts gX6_said_X1_remember rfl rfl rfl (by decide +kernel) ⟨Nat.le_of_ble_eq_true rfl, Nat.le_of_ble_eq_true rfl⟩) (by decide) (uc_1 E _) (T := TX1) (N := 11) rfl rfl hl.1 rfl (Nat.le_of_ble_eq_true rfl) dX6_said_42 (fun M_11 H locs hw_11 h => ?_)
      have eM_11 := hw_11
      refine lv_aload_n hx hb dX6_said_45 rfl (lv_at hl 2 rfl) ?_
      refine ur_get C h 0 (by decide) (uc_0 E _) (Cn := RX6) (T := TX6) (N := 6) rfl hin6 0 (by decide) (by decide +kernel) rfl dX6_said_46 ?_
      refine ur_get C h 1 (by decide) (uc_1 E _) (Cn := RX1) (T := TX1) (N := 11) rfl hin1 8 (by decide) (by decide +kernel) rfl dX6_said_49 ?_
      refine lv_iload_n hx hb dX6_said_52 rfl (lv_at hl 3 rfl) ?_
      refine ur_eq (y := nI (tn x1)) enx1 ?_
      refine lv_iload_n hx hb dX6_said_53 rfl (lv_at hl 4 rfl) ?_
      refine ur_eq (y := nI (tn x2)) enx2 ?_
      refine lv_iload hx hb dX6_said_54 (lv_at hl 0 rfl) ?_
      refine lv_iload_n hx hb dX6_said_56 rfl (lv_at hl 5 rfl) ?_
      refine lv_iconst (v := 1) hx hb dX6_said_57 (by decide) ?_
      refine lv_icmp_ne (tgt := 65) hx hb dX6_said_58 (by decide) (fun c_12 => ?_) (fun c_12 => ?_)
      · skip
        refine lv_iconst (v := 2) hx hb dX6_said_65 (by decide) ?_
        refine ur_callVv C h (k := 7) (As := [.int (nI (tn x1)), .int (nI (tn x2)), .int v_9, .int 2]) (rest := []) (k_X3_putAsked l E hI M_11 (tn x1) (tn x2) v_9 2 (by omega) (by omega) b (by rw [eM_11, xRem_14 hP15 hk8 (by decide) (by decide)]; exact hbk) hb12) (cwV 4 hts gX6_said_X3_putAsked rfl rfl rfl (by decide +kernel) ⟨Nat.le_of_ble_eq_true rfl, Nat.le_of_ble_eq_true rfl⟩) (by decide) (uc_7 E _) (T := TX3) (N := 6) rfl rfl hl.1 rfl (Nat.le_of_ble_eq_true rfl) dX6_said_66 (fun M_14 H locs hw_14 h => ?_)
        have eM_14 := hw_14
        refine lv_iload hx hb dX6_said_69 (lv_at hl 0 rfl) ?_
        exact ur_iret C h hr hlocks (by subst ev_9; subst eM_11; subst eM_14; rw [if_pos c_3, if_pos hwy, if_neg c_12]; exact ⟨rfl, rfl⟩) dX6_said_71
      · skip
        refine lv_iconst (v := 1) hx hb dX6_said_61 (by decide) ?_
        refine lv_goto (tgt := 66) hx hb dX6_said_62 (by decide) ?_
        refine ur_callVv C h (k := 7) (As := [.int (nI (tn x1)), .int (nI (tn x2)), .int v_9, .int 1]) (rest := []) (k_X3_putAsked l E hI M_11 (tn x1) (tn x2) v_9 1 (by omega) (by omega) b (by rw [eM_11, xRem_14 hP15 hk8 (by decide) (by decide)]; exact hbk) hb12) (cwV 4 hts gX6_said_X3_putAsked rfl rfl rfl (by decide +kernel) ⟨Nat.le_of_ble_eq_true rfl, Nat.le_of_ble_eq_true rfl⟩) (by decide) (uc_7 E _) (T := TX3) (N := 6) rfl rfl hl.1 rfl (Nat.le_of_ble_eq_true rfl) dX6_said_66 (fun M_16 H locs hw_16 h => ?_)
        have eM_16 := hw_16
        refine lv_iload hx hb dX6_said_69 (lv_at hl 0 rfl) ?_
        exact ur_iret C h hr hlocks (by subst ev_9; subst eM_11; subst eM_16; rw [if_pos c_3, if_pos hwy, if_pos c_12]; exact ⟨rfl, rfl⟩) dX6_said_71
    · skip
      refine lv_iload hx hb dX6_said_24 (lv_at hl 0 rfl) ?_
      exact ur_iret C h hr hlocks (by rw [if_pos c_3, if_neg (by assumption)]; exact ⟨rfl, rfl⟩) dX6_said_26
  · skip
    have c_3 : ¬ (0 ≤ x3.toInt ∧ x3.toInt ≤ 1) := uz_f er_1 c_3
    refine lv_iconst (v := (-1)) hx hb dX6_said_9 (by decide) ?_
    exact ur_iret C h hr hlocks (by rw [if_neg c_3]; exact ⟨rfl, rfl⟩) dX6_said_10
set_option maxHeartbeats 1000000 in
set_option maxRecDepth 100000 in
theorem k_X6_teach (l : Launch) (E : uE) (hI : uI E) (M : uM) (x1 x2 : Int32) (n : Nat) (hn : M.1 1 0 = nI n) (hn6 : n ≤ 6) (nw : Nat) (hnw : M.1 1 4 = nI nw) (hnw6 : nw ≤ 6) (ht : ¬ M.1 1 7 = 0) (k : Nat) (hk : M.1 1 10 = nI k) (hk8 : k ≤ 8) (b : Nat) (hbk : M.1 11 0 = nI b) (hb12 : b ≤ 12) (hP : xPast M) (hP15 : ∀ i, i < 8 → 15 ≤ M.2.2 6 i) : Met l yX6_teach wsX6_teach ({ frames := 4, cells := 0, slots := 0, locals := 90 }) (va_Pc [.ref (E.2.1 0), .int x1, .int x2] (uB E M)) (va_Qi (fun r u => if (0 ≤ x1.toInt ∧ x1.toInt < n) ∧ (0 ≤ x2.toInt ∧ x2.toInt ≤ 5) then (if ubit (M.1 9 (tn x1)) (tn x2) = true ∨ ¬ M.1 8 (tn x1) = 0 then r = -2 ∧ M = u else if M.1 7 4 < 9999 then u = xTeach (xRem M k) (tn x1) (tn x2) ∧ r = u.1 9 (tn x1) else r = -3 ∧ M = u) else r = -1 ∧ M = u) (uP E) (uA E)) 0 0 (uA E) := by
  have hin1 : ∀ w ∈ wsX10, w ∈ wsX6_teach := by decide +kernel
  have hin3 : ∀ w ∈ wsX30, w ∈ wsX6_teach := by decide +kernel
  have hin6 : ∀ w ∈ wsX60, w ∈ wsX6_teach := by decide +kernel
  refine u_start (cc := cX6_teach) (maxL := 4) (ret := (some .int)) hI (by decide) rfl (Nat.le_of_ble_eq_true rfl) ?_
  intro p_ e_ s_ m_ bl_ me_ c_ C hr hlocks h ls hl
  have hx := C.1.1
  have hb := C.1.2.1
  have hown : s_.vm.findClass RX6 = some m_.cls := C.1.2.2.2.1
  have hts := C.1.2.2.2.2
  have hl : lv_has ls 4 [(0, .ref (E.2.1 0)), (1, .int x1), (2, .int x2)] := hl
  refine lv_aload_n hx hb dX6_teach_0 rfl (lv_at hl 0 rfl) ?_
  refine lv_iload_n hx hb dX6_teach_1 rfl (lv_at hl 1 rfl) ?_
  refine ur_callVi C h (k := 0) (As := [.int x1]) (rest := []) (k_X6_isSpeaker l E hI M x1 n hn hn6) (cwV 1 hts gX6_teach_X6_isSpeaker rfl rfl rfl (by decide +kernel) ⟨Nat.le_of_ble_eq_true rfl, Nat.le_of_ble_eq_true rfl⟩) (by decide) (uc_0 E _) (T := TX6) (N := 6) rfl rfl hl.1 rfl (Nat.le_of_ble_eq_true rfl) dX6_teach_2 (fun r_1 M_2 H locs hw_2 h => ?_)
  obtain ⟨hu, er_1⟩ := hw_2
  subst hu
  refine lv_if_eq (tgt := 17) hx hb dX6_teach_5 (by decide) (fun c_3 => ?_) (fun c_3 => ?_)
  · skip
    have c_3 : ¬ (0 ≤ x1.toInt ∧ x1.toInt < n) := uz_f er_1 c_3
    refine lv_iconst (v := (-1)) hx hb dX6_teach_17 (by decide) ?_
    exact ur_iret C h hr hlocks (by rw [if_neg (by omega)]; exact ⟨rfl, rfl⟩) dX6_teach_18
  · skip
    have c_3 : 0 ≤ x1.toInt ∧ x1.toInt < n := uz_t er_1 c_3
    refine lv_iload_n hx hb dX6_teach_8 rfl (lv_at hl 2 rfl) ?_
    refine lv_iconst (v := 0) hx hb dX6_teach_9 (by decide) ?_
    refine lv_iconst (v := 5) hx hb dX6_teach_10 (by decide) ?_
    refine ur_callSi C h (As := [.int x2, .int 0, .int 5]) (rest := []) (k_X6_isIn l E hI M x2 0 5) (va_cwS 3 hts gX6_teach_X6_isIn rfl rfl rfl (by decide +kernel) ⟨Nat.le_of_ble_eq_true rfl, Nat.le_of_ble_eq_true rfl⟩) rfl hl.1 rfl (Nat.le_of_ble_eq_true rfl) dX6_teach_11 (fun r_4 M_5 H locs hw_5 h => ?_)
    obtain ⟨hu, er_4⟩ := hw_5
    subst hu
    have er_4 : r_4 = if 0 ≤ x2.toInt ∧ x2.toInt ≤ 5 then 1 else 0 := u_in32 (x := x2.toInt) rfl rfl rfl er_4
    refine lv_if_ne (tgt := 19) hx hb dX6_teach_14 (by decide) (fun c_6 => ?_) (fun c_6 => ?_)
    · skip
      have c_6 : 0 ≤ x2.toInt ∧ x2.toInt ≤ 5 := uz_t er_4 c_6
      obtain ⟨hnx1, enx1⟩ := u_tn c_3 (by omega)
      obtain ⟨hnx2, enx2⟩ := u_tn (x := x2) (n := 6) ⟨by omega, by omega⟩ (by omega)
      refine lv_aload_n hx hb dX6_teach_19 rfl (lv_at hl 0 rfl) ?_
      refine ur_get C h 0 (by decide) (uc_0 E _) (Cn := RX6) (T := TX6) (N := 6) rfl hin6 0 (by decide) (by decide +kernel) rfl dX6_teach_20 ?_
      refine ur_get C h 1 (by decide) (uc_1 E _) (Cn := RX1) (T := TX1) (N := 11) rfl hin1 8 (by decide) (by decide +kernel) rfl dX6_teach_23 ?_
      refine lv_astore_n (lv' := [(3, .ref (E.2.1 7)), (0, .ref (E.2.1 0)), (1, .int x1), (2, .int x2)]) hx hb dX6_teach_26 rfl hl (by decide) rfl (fun ls hl => ?_)
      refine lv_aload_n hx hb dX6_teach_27 rfl (lv_at hl 0 rfl) ?_
      refine ur_get C h 7 (by decide) (uc_7 E _) (Cn := RX3) (T := TX3) (N := 6) rfl hin3 1 (by decide) (by decide +kernel) rfl dX6_teach_28 ?_
      refine lv_iload_n hx hb dX6_teach_31 rfl (lv_at hl 2 rfl) ?_
      refine ur_eq (y := nI (tn x1)) enx1 ?_
      refine ur_iald C h 9 (by decide) (uc_9 E _) (tn x1) (by omega) (by decide) dX6_teach_32 ?_
      refine lv_iload_n hx hb dX6_teach_33 rfl (lv_at hl 3 rfl) ?_
      refine ur_eq (y := nI (tn x2)) enx2 ?_
      refine ur_callSi C h (As := [.int (M.1 9 (tn x1)), .int (nI (tn x2))]) (rest := []) (k_X6_has l E hI M (M.1 9 (tn x1)) (tn x2)) (va_cwS 2 hts gX6_teach_X6_has rfl rfl rfl (by decide +kernel) ⟨Nat.le_of_ble_eq_true rfl, Nat.le_of_ble_eq_true rfl⟩) rfl hl.1 rfl (Nat.le_of_ble_eq_true rfl) dX6_teach_34 (fun r_7 M_8 H locs hw_8 h => ?_)
      obtain ⟨hu, er_7⟩ := hw_8
      subst hu
      refine lv_if_ne (tgt := 49) hx hb dX6_teach_37 (by decide) (fun c_9 => ?_) (fun c_9 => ?_)
      · skip
        have c_9 : ubit (M.1 9 (tn x1)) (tn x2) = true := uz_t er_7 c_9
        refine lv_bipush (v := (-2)) hx hb dX6_teach_49 (by decide) ?_
        exact ur_iret C h hr hlocks (by rw [if_pos (by omega), if_pos (by first | exact Or.inl c_9 | exact Or.inr c_9)]; exact ⟨rfl, rfl⟩) dX6_teach_51
      · skip
        have c_9 : ¬ (ubit (M.1 9 (tn x1)) (tn x2) = true) := uz_f er_7 c_9
        refine lv_aload_n hx hb dX6_teach_40 rfl (lv_at hl 0 rfl) ?_
        refine ur_get C h 7 (by decide) (uc_7 E _) (Cn := RX3) (T := TX3) (N := 6) rfl hin3 0 (by decide) (by decide +kernel) rfl dX6_teach_41 ?_
        refine lv_iload_n hx hb dX6_teach_44 rfl (lv_at hl 2 rfl) ?_
        refine ur_eq (y := nI (tn x1)) enx1 ?_
        refine ur_iald C h 8 (by decide) (uc_8 E _) (tn x1) (by omega) (by decide) dX6_teach_45 ?_
        refine lv_if_eq (tgt := 52) hx hb dX6_teach_46 (by decide) (fun c_10 => ?_) (fun c_10 => ?_)
        · skip
          refine lv_aload_n hx hb dX6_teach_52 rfl (lv_at hl 0 rfl) ?_
          refine ur_get C h 7 (by decide) (uc_7 E _) (Cn := RX3) (T := TX3) (N := 6) rfl hin3 4 (by decide) (by decide +kernel) rfl dX6_teach_53 ?_
          refine lv_sipush (v := 9999) hx hb dX6_teach_56 (by decide) ?_
          refine lv_icmp_lt (tgt := 65) hx hb dX6_teach_59 (by decide) (fun c_11 => ?_) (fun c_11 => ?_)
          · skip
            refine lv_aload_n hx hb dX6_teach_65 rfl (lv_at hl 1 rfl) ?_
            refine ur_get C h 0 (by decide) (uc_0 E _) (Cn := RX6) (T := TX6) (N := 6) rfl hin6 0 (by decide) (by decide +kernel) rfl dX6_teach_66 ?_
            refine ur_callVv C h (k := 1) (As := []) (rest := []) (k_X1_remember l E hI M k hk hk8 hP) (cwV 0 hts gX6_teach_X1_remember rfl rfl rfl (by decide +kernel) ⟨Nat.le_of_ble_eq_true rfl, Nat.le_of_ble_eq_true rfl⟩) (by decide) (uc_1 E _) (T := TX1) (N := 11) rfl rfl hl.1 rfl (Nat.le_of_ble_eq_true rfl) dX6_teach_69 (fun M_13 H locs hw_13 h => ?_)
            have eM_13 := hw_13
            refine lv_aload_n hx hb dX6_teach_72 rfl (lv_at hl 0 rfl) ?_
            refine ur_get C h 7 (by decide) (uc_7 E _) (Cn := RX3) (T := TX3) (N := 6) rfl hin3 1 (by decide) (by decide +kernel) rfl dX6_teach_73 ?_
            refine lv_iload_n hx hb dX6_teach_76 rfl (lv_at hl 2 rfl) ?_
            refine ur_eq (y := nI (tn x1)) enx1 ?_
            refine lv_dup2_11 hx hb dX6_teach_77 rfl rfl ?_
            refine ur_iald C h 9 (by decide) (uc_9 E _) (tn x1) (by omega) (by decide) dX6_teach_78 ?_
            refine lv_iconst (v := 1) hx hb dX6_teach_79 (by decide) ?_
            refine lv_iload_n hx hb dX6_teach_80 rfl (lv_at hl 3 rfl) ?_
            refine ur_eq (y := nI (tn x2)) enx2 ?_
            refine lv_ishl hx hb dX6_teach_81 ?_
            refine lv_ior hx hb dX6_teach_82 ?_
            refine ur_iast C h 9 (by decide) (uc_9 E) (tn x1) (by omega) (by decide) dX6_teach_83 (fun M_14 H locs eM_14 h => ?_)
            refine lv_aload_n hx hb dX6_teach_84 rfl (lv_at hl 0 rfl) ?_
            refine lv_dup hx hb dX6_teach_85 rfl ?_
            refine ur_get C h 7 (by decide) (uc_7 E _) (Cn := RX3) (T := TX3) (N := 6) rfl hin3 4 (by decide) (by decide +kernel) rfl dX6_teach_86 ?_
            refine lv_iconst (v := 1) hx hb dX6_teach_89 (by decide) ?_
            refine lv_iadd hx hb dX6_teach_90 ?_
            refine ur_puti C h 7 (by decide) (uc_7 E _) (Cn := RX3) (T := TX3) (N := 6) rfl hin3 tyX3 tyX3_ok nmX3 4 (by decide) (by decide +kernel) rfl rfl rfl (Nat.le_of_ble_eq_true rfl) (us_7_4 E _ _) dX6_teach_91 (fun M_15 H locs eM_15 h => ?_)
            refine lv_aload_n hx hb dX6_teach_94 rfl (lv_at hl 0 rfl) ?_
            refine ur_get C h 7 (by decide) (uc_7 E _) (Cn := RX3) (T := TX3) (N := 6) rfl hin3 1 (by decide) (by decide +kernel) rfl dX6_teach_95 ?_
            refine lv_iload_n hx hb dX6_teach_98 rfl (lv_at hl 2 rfl) ?_
            refine ur_eq (y := nI (tn x1)) enx1 ?_
            refine ur_iald C h 9 (by decide) (uc_9 E _) (tn x1) (by omega) (by decide) dX6_teach_99 ?_
            exact ur_iret C h hr hlocks (by rw [if_pos (by omega), if_neg (fun z => by rcases z with z | z <;> first | exact c_9 z | exact z c_10), if_pos c_11]; subst eM_13; subst eM_14; subst eM_15; exact ⟨rfl, rfl⟩) dX6_teach_100
          · skip
            refine lv_bipush (v := (-3)) hx hb dX6_teach_62 (by decide) ?_
            exact ur_iret C h hr hlocks (by rw [if_pos (by omega), if_neg (fun z => by rcases z with z | z <;> first | exact c_9 z | exact z c_10), if_neg c_11]; exact ⟨rfl, rfl⟩) dX6_teach_64
        · skip
          refine lv_bipush (v := (-2)) hx hb dX6_teach_49 (by decide) ?_
          exact ur_iret C h hr hlocks (by rw [if_pos (by omega), if_pos (by first | exact Or.inl c_10 | exact Or.inr c_10)]; exact ⟨rfl, rfl⟩) dX6_teach_51
    · skip
      have c_6 : ¬ (0 ≤ x2.toInt ∧ x2.toInt ≤ 5) := uz_f er_4 c_6
      refine lv_iconst (v := (-1)) hx hb dX6_teach_17 (by decide) ?_
      exact ur_iret C h hr hlocks (by rw [if_neg (by omega)]; exact ⟨rfl, rfl⟩) dX6_teach_18
set_option maxHeartbeats 1000000 in
set_option maxRecDepth 100000 in
theorem k_X6_rest (l : Launch) (E : uE) (hI : uI E) (M : uM) (n : Nat) (hn : M.1 1 0 = nI n) (hn6 : n ≤ 6) (nw : Nat) (hnw : M.1 1 4 = nI nw) (hnw6 : nw ≤ 6) (ht : ¬ M.1 1 7 = 0) (k : Nat) (hk : M.1 1 10 = nI k) (hk8 : k ≤ 8) (b : Nat) (hbk : M.1 11 0 = nI b) (hb12 : b ≤ 12) (hP : xPast M) (hP15 : ∀ i, i < 8 → 15 ≤ M.2.2 6 i) : Met l yX6_rest wsX6_rest ({ frames := 4, cells := 0, slots := 0, locals := 90 }) (va_Pc [.ref (E.2.1 0)] (uB E M)) (va_Qi (fun r u => u = uSet (xRem M k) 7 4 0 ∧ r = M.1 7 4) (uP E) (uA E)) 0 0 (uA E) := by
  have hin1 : ∀ w ∈ wsX10, w ∈ wsX6_rest := by decide +kernel
  have hin3 : ∀ w ∈ wsX30, w ∈ wsX6_rest := by decide +kernel
  have hin6 : ∀ w ∈ wsX60, w ∈ wsX6_rest := by decide +kernel
  refine u_start (cc := cX6_rest) (maxL := 2) (ret := (some .int)) hI (by decide) rfl (Nat.le_of_ble_eq_true rfl) ?_
  intro p_ e_ s_ m_ bl_ me_ c_ C hr hlocks h ls hl
  have hx := C.1.1
  have hb := C.1.2.1
  have hown : s_.vm.findClass RX6 = some m_.cls := C.1.2.2.2.1
  have hts := C.1.2.2.2.2
  have hl : lv_has ls 2 [(0, .ref (E.2.1 0))] := hl
  refine lv_aload_n hx hb dX6_rest_0 rfl (lv_at hl 0 rfl) ?_
  refine ur_get C h 0 (by decide) (uc_0 E _) (Cn := RX6) (T := TX6) (N := 6) rfl hin6 0 (by decide) (by decide +kernel) rfl dX6_rest_1 ?_
  refine ur_callVv C h (k := 1) (As := []) (rest := []) (k_X1_remember l E hI M k hk hk8 hP) (cwV 0 hts gX6_rest_X1_remember rfl rfl rfl (by decide +kernel) ⟨Nat.le_of_ble_eq_true rfl, Nat.le_of_ble_eq_true rfl⟩) (by decide) (uc_1 E _) (T := TX1) (N := 11) rfl rfl hl.1 rfl (Nat.le_of_ble_eq_true rfl) dX6_rest_4 (fun M_2 H locs hw_2 h => ?_)
  have eM_2 := hw_2
  refine lv_aload_n hx hb dX6_rest_7 rfl (lv_at hl 0 rfl) ?_
  refine ur_get C h 0 (by decide) (uc_0 E _) (Cn := RX6) (T := TX6) (N := 6) rfl hin6 0 (by decide) (by decide +kernel) rfl dX6_rest_8 ?_
  refine ur_get C h 1 (by decide) (uc_1 E _) (Cn := RX1) (T := TX1) (N := 11) rfl hin1 8 (by decide) (by decide +kernel) rfl dX6_rest_11 ?_
  refine ur_get C h 7 (by decide) (uc_7 E _) (Cn := RX3) (T := TX3) (N := 6) rfl hin3 4 (by decide) (by decide +kernel) rfl dX6_rest_14 ?_
  refine lv_istore_n (lv' := [(1, .int (M_2.1 7 4)), (0, .ref (E.2.1 0))]) hx hb dX6_rest_17 rfl hl (by decide) rfl (fun ls hl => ?_)
  refine lv_aload_n hx hb dX6_rest_18 rfl (lv_at hl 1 rfl) ?_
  refine ur_get C h 0 (by decide) (uc_0 E _) (Cn := RX6) (T := TX6) (N := 6) rfl hin6 0 (by decide) (by decide +kernel) rfl dX6_rest_19 ?_
  refine ur_get C h 1 (by decide) (uc_1 E _) (Cn := RX1) (T := TX1) (N := 11) rfl hin1 8 (by decide) (by decide +kernel) rfl dX6_rest_22 ?_
  refine lv_iconst (v := 0) hx hb dX6_rest_25 (by decide) ?_
  refine ur_puti C h 7 (by decide) (uc_7 E _) (Cn := RX3) (T := TX3) (N := 6) rfl hin3 tyX3 tyX3_ok nmX3 4 (by decide) (by decide +kernel) rfl rfl rfl (Nat.le_of_ble_eq_true rfl) (us_7_4 E _ _) dX6_rest_26 (fun M_3 H locs eM_3 h => ?_)
  refine lv_iload_n hx hb dX6_rest_29 rfl (lv_at hl 0 rfl) ?_
  exact ur_iret C h hr hlocks (by subst eM_2; subst eM_3; exact ⟨rfl, by rw [xRem_14 hP15 hk8 (by decide) (by decide)]⟩) dX6_rest_30
set_option maxHeartbeats 1000000 in
set_option maxRecDepth 100000 in
theorem k_X6_undo (l : Launch) (E : uE) (hI : uI E) (M : uM) (k : Nat) (hk : M.1 1 10 = nI k) (hk8 : k ≤ 8) (hP : xPast M) : Met l yX6_undo wsX6_undo ({ frames := 4, cells := 0, slots := 0, locals := 88 }) (va_Pc [.ref (E.2.1 0)] (uB E M)) (va_Qi (fun r u => if 0 < k then u = xBack M k ∧ r = u.1 1 10 else r = -4 ∧ M = u) (uP E) (uA E)) 0 0 (uA E) := by
  have hin1 : ∀ w ∈ wsX10, w ∈ wsX6_undo := by decide +kernel
  have hin6 : ∀ w ∈ wsX60, w ∈ wsX6_undo := by decide +kernel
  refine u_start (cc := cX6_undo) (maxL := 1) (ret := (some .int)) hI (by decide) rfl (Nat.le_of_ble_eq_true rfl) ?_
  intro p_ e_ s_ m_ bl_ me_ c_ C hr hlocks h ls hl
  have hx := C.1.1
  have hb := C.1.2.1
  have hown : s_.vm.findClass RX6 = some m_.cls := C.1.2.2.2.1
  have hts := C.1.2.2.2.2
  have hl : lv_has ls 1 [(0, .ref (E.2.1 0))] := hl
  refine lv_aload_n hx hb dX6_undo_0 rfl (lv_at hl 0 rfl) ?_
  refine ur_get C h 0 (by decide) (uc_0 E _) (Cn := RX6) (T := TX6) (N := 6) rfl hin6 0 (by decide) (by decide +kernel) rfl dX6_undo_1 ?_
  refine ur_get C h 1 (by decide) (uc_1 E _) (Cn := RX1) (T := TX1) (N := 11) rfl hin1 10 (by decide) (by decide +kernel) rfl dX6_undo_4 ?_
  refine ur_eq (y := nI k) (hk) ?_
  refine lv_if_gt (tgt := 13) hx hb dX6_undo_7 (by decide) (fun c_1 => ?_) (fun c_1 => ?_)
  · skip
    have c_1 : 0 < k := (nI_ltI (a := 0) (b := k) (by omega) (by omega)).mp c_1
    refine lv_aload_n hx hb dX6_undo_13 rfl (lv_at hl 0 rfl) ?_
    refine ur_get C h 0 (by decide) (uc_0 E _) (Cn := RX6) (T := TX6) (N := 6) rfl hin6 0 (by decide) (by decide +kernel) rfl dX6_undo_14 ?_
    refine ur_callVv C h (k := 1) (As := []) (rest := []) (k_X1_goBack l E hI M k hk hk8 (by omega) hP) (cwV 0 hts gX6_undo_X1_goBack rfl rfl rfl (by decide +kernel) ⟨Nat.le_of_ble_eq_true rfl, Nat.le_of_ble_eq_true rfl⟩) (by decide) (uc_1 E _) (T := TX1) (N := 11) rfl rfl hl.1 rfl (Nat.le_of_ble_eq_true rfl) dX6_undo_17 (fun M_3 H locs hw_3 h => ?_)
    have eM_3 := hw_3
    refine lv_aload_n hx hb dX6_undo_20 rfl (lv_at hl 0 rfl) ?_
    refine ur_get C h 0 (by decide) (uc_0 E _) (Cn := RX6) (T := TX6) (N := 6) rfl hin6 0 (by decide) (by decide +kernel) rfl dX6_undo_21 ?_
    refine ur_get C h 1 (by decide) (uc_1 E _) (Cn := RX1) (T := TX1) (N := 11) rfl hin1 10 (by decide) (by decide +kernel) rfl dX6_undo_24 ?_
    exact ur_iret C h hr hlocks (by rw [if_pos (by omega)]; exact ⟨eM_3, rfl⟩) dX6_undo_27
  · skip
    have c_1 : ¬ 0 < k := fun z => c_1 ((nI_ltI (a := 0) (b := k) (by omega) (by omega)).mpr z)
    refine lv_bipush (v := (-4)) hx hb dX6_undo_10 (by decide) ?_
    exact ur_iret C h hr hlocks (by rw [if_neg (by omega)]; exact ⟨rfl, rfl⟩) dX6_undo_12
set_option maxHeartbeats 1000000 in
set_option maxRecDepth 100000 in
theorem k_X6_seed (l : Launch) (E : uE) (hI : uI E) (M : uM) (x1 : Int32) : Met l yX6_seed wsX6_seed ({ frames := 0, cells := 0, slots := 0, locals := 0 }) (va_Pc [.ref (E.2.1 0), .int x1] (uB E M)) (va_Qi (fun r u => if 0 ≤ x1 then u = uSet M 7 5 x1 ∧ r = M.1 7 5 else r = -1 ∧ M = u) (uP E) (uA E)) 0 0 (uA E) := by
  have hin1 : ∀ w ∈ wsX10, w ∈ wsX6_seed := by decide +kernel
  have hin3 : ∀ w ∈ wsX30, w ∈ wsX6_seed := by decide +kernel
  have hin6 : ∀ w ∈ wsX60, w ∈ wsX6_seed := by decide +kernel
  refine u_start (cc := cX6_seed) (maxL := 3) (ret := (some .int)) hI (by decide) rfl (Nat.le_of_ble_eq_true rfl) ?_
  intro p_ e_ s_ m_ bl_ me_ c_ C hr hlocks h ls hl
  have hx := C.1.1
  have hb := C.1.2.1
  have hown : s_.vm.findClass RX6 = some m_.cls := C.1.2.2.2.1
  have hts := C.1.2.2.2.2
  have hl : lv_has ls 3 [(0, .ref (E.2.1 0)), (1, .int x1)] := hl
  refine lv_iload_n hx hb dX6_seed_0 rfl (lv_at hl 1 rfl) ?_
  refine lv_if_ge (tgt := 6) hx hb dX6_seed_1 (by decide) (fun c_1 => ?_) (fun c_1 => ?_)
  · skip
    refine lv_aload_n hx hb dX6_seed_6 rfl (lv_at hl 0 rfl) ?_
    refine ur_get C h 0 (by decide) (uc_0 E _) (Cn := RX6) (T := TX6) (N := 6) rfl hin6 0 (by decide) (by decide +kernel) rfl dX6_seed_7 ?_
    refine ur_get C h 1 (by decide) (uc_1 E _) (Cn := RX1) (T := TX1) (N := 11) rfl hin1 8 (by decide) (by decide +kernel) rfl dX6_seed_10 ?_
    refine ur_get C h 7 (by decide) (uc_7 E _) (Cn := RX3) (T := TX3) (N := 6) rfl hin3 5 (by decide) (by decide +kernel) rfl dX6_seed_13 ?_
    refine lv_istore_n (lv' := [(2, .int (M.1 7 5)), (0, .ref (E.2.1 0)), (1, .int x1)]) hx hb dX6_seed_16 rfl hl (by decide) rfl (fun ls hl => ?_)
    refine lv_aload_n hx hb dX6_seed_17 rfl (lv_at hl 1 rfl) ?_
    refine ur_get C h 0 (by decide) (uc_0 E _) (Cn := RX6) (T := TX6) (N := 6) rfl hin6 0 (by decide) (by decide +kernel) rfl dX6_seed_18 ?_
    refine ur_get C h 1 (by decide) (uc_1 E _) (Cn := RX1) (T := TX1) (N := 11) rfl hin1 8 (by decide) (by decide +kernel) rfl dX6_seed_21 ?_
    refine lv_iload_n hx hb dX6_seed_24 rfl (lv_at hl 2 rfl) ?_
    refine ur_puti C h 7 (by decide) (uc_7 E _) (Cn := RX3) (T := TX3) (N := 6) rfl hin3 tyX3 tyX3_ok nmX3 5 (by decide) (by decide +kernel) rfl rfl rfl (Nat.le_of_ble_eq_true rfl) (us_7_5 E _ _) dX6_seed_25 (fun M_2 H locs eM_2 h => ?_)
    refine lv_iload_n hx hb dX6_seed_28 rfl (lv_at hl 0 rfl) ?_
    exact ur_iret C h hr hlocks (by rw [if_pos c_1]; subst eM_2; exact ⟨rfl, rfl⟩) dX6_seed_29
  · skip
    refine lv_iconst (v := (-1)) hx hb dX6_seed_4 (by decide) ?_
    exact ur_iret C h hr hlocks (by rw [if_neg c_1]; exact ⟨rfl, rfl⟩) dX6_seed_5
set_option maxHeartbeats 1000000 in
set_option maxRecDepth 100000 in
theorem k_X6_pass (l : Launch) (E : uE) (hI : uI E) (M : uM) (x1 x2 x3 : Int32) (n : Nat) (hn : M.1 1 0 = nI n) (hn6 : n ≤ 6) (nw : Nat) (hnw : M.1 1 4 = nI nw) (hnw6 : nw ≤ 6) (ht : ¬ M.1 1 7 = 0) : Met l yX6_pass wsX6_pass ({ frames := 6, cells := 0, slots := 0, locals := 142 }) (va_Pc [.ref (E.2.1 0), .int x1, .int x2, .int x3] (uB E M)) (va_Qi (fun r u => M = u ∧ r = if (0 ≤ x1.toInt ∧ x1.toInt < n) ∧ (0 ≤ x2.toInt ∧ x2.toInt < nw) then (if x3 = -4 then xPassIn M (tn x1) (tn x2) (M.1 7 4) else if 0 ≤ x3.toInt ∧ x3.toInt ≤ 9999 then xPassIn M (tn x1) (tn x2) x3 else -1) else -1) (uP E) (uA E)) 0 0 (uA E) := by
  have hin6 : ∀ w ∈ wsX60, w ∈ wsX6_pass := by decide +kernel
  refine u_start (cc := cX6_pass) (maxL := 4) (ret := (some .int)) hI (by decide) rfl (Nat.le_of_ble_eq_true rfl) ?_
  intro p_ e_ s_ m_ bl_ me_ c_ C hr hlocks h ls hl
  have hx := C.1.1
  have hb := C.1.2.1
  have hown : s_.vm.findClass RX6 = some m_.cls := C.1.2.2.2.1
  have hts := C.1.2.2.2.2
  have hl : lv_has ls 4 [(0, .ref (E.2.1 0)), (1, .int x1), (2, .int x2), (3, .int x3)] := hl
  refine lv_aload_n hx hb dX6_pass_0 rfl (lv_at hl 0 rfl) ?_
  refine lv_iload_n hx hb dX6_pass_1 rfl (lv_at hl 1 rfl) ?_
  refine ur_callVi C h (k := 0) (As := [.int x1]) (rest := []) (k_X6_isSpeaker l E hI M x1 n hn hn6) (cwV 1 hts gX6_pass_X6_isSpeaker rfl rfl rfl (by decide +kernel) ⟨Nat.le_of_ble_eq_true rfl, Nat.le_of_ble_eq_true rfl⟩) (by decide) (uc_0 E _) (T := TX6) (N := 6) rfl rfl hl.1 rfl (Nat.le_of_ble_eq_true rfl) dX6_pass_2 (fun r_1 M_2 H locs hw_2 h => ?_)
  obtain ⟨hu, er_1⟩ := hw_2
  subst hu
  refine lv_if_eq (tgt := 16) hx hb dX6_pass_5 (by decide) (fun c_3 => ?_) (fun c_3 => ?_)
  · skip
    have c_3 : ¬ (0 ≤ x1.toInt ∧ x1.toInt < n) := uz_f er_1 c_3
    refine lv_iconst (v := (-1)) hx hb dX6_pass_16 (by decide) ?_
    exact ur_iret C h hr hlocks (⟨rfl, by rw [if_neg (by omega)]⟩) dX6_pass_17
  · skip
    have c_3 : 0 ≤ x1.toInt ∧ x1.toInt < n := uz_t er_1 c_3
    refine lv_aload_n hx hb dX6_pass_8 rfl (lv_at hl 0 rfl) ?_
    refine lv_iload_n hx hb dX6_pass_9 rfl (lv_at hl 2 rfl) ?_
    refine ur_callVi C h (k := 0) (As := [.int x2]) (rest := []) (k_X6_isWord l E hI M x2 nw hnw hnw6) (cwV 1 hts gX6_pass_X6_isWord rfl rfl rfl (by decide +kernel) ⟨Nat.le_of_ble_eq_true rfl, Nat.le_of_ble_eq_true rfl⟩) (by decide) (uc_0 E _) (T := TX6) (N := 6) rfl rfl hl.1 rfl (Nat.le_of_ble_eq_true rfl) dX6_pass_10 (fun r_4 M_5 H locs hw_5 h => ?_)
    obtain ⟨hu, er_4⟩ := hw_5
    subst hu
    refine lv_if_ne (tgt := 18) hx hb dX6_pass_13 (by decide) (fun c_6 => ?_) (fun c_6 => ?_)
    · skip
      have c_6 : 0 ≤ x2.toInt ∧ x2.toInt < nw := uz_t er_4 c_6
      obtain ⟨hnx1, enx1⟩ := u_tn c_3 (by omega)
      obtain ⟨hnx2, enx2⟩ := u_tn c_6 (by omega)
      refine lv_iload_n hx hb dX6_pass_18 rfl (lv_at hl 3 rfl) ?_
      refine lv_bipush (v := (-4)) hx hb dX6_pass_19 (by decide) ?_
      refine lv_icmp_ne (tgt := 34) hx hb dX6_pass_21 (by decide) (fun c_7 => ?_) (fun c_7 => ?_)
      · skip
        refine lv_iload_n hx hb dX6_pass_34 rfl (lv_at hl 3 rfl) ?_
        refine lv_iconst (v := 0) hx hb dX6_pass_35 (by decide) ?_
        refine lv_sipush (v := 9999) hx hb dX6_pass_36 (by decide) ?_
        refine ur_callSi C h (As := [.int x3, .int 0, .int 9999]) (rest := []) (k_X6_isIn l E hI M x3 0 9999) (va_cwS 3 hts gX6_pass_X6_isIn rfl rfl rfl (by decide +kernel) ⟨Nat.le_of_ble_eq_true rfl, Nat.le_of_ble_eq_true rfl⟩) rfl hl.1 rfl (Nat.le_of_ble_eq_true rfl) dX6_pass_39 (fun r_8 M_9 H locs hw_9 h => ?_)
        obtain ⟨hu, er_8⟩ := hw_9
        subst hu
        have er_8 : r_8 = if 0 ≤ x3.toInt ∧ x3.toInt ≤ 9999 then 1 else 0 := u_in32 (x := x3.toInt) rfl rfl rfl er_8
        refine lv_if_eq (tgt := 58) hx hb dX6_pass_42 (by decide) (fun c_10 => ?_) (fun c_10 => ?_)
        · skip
          have c_10 : ¬ (0 ≤ x3.toInt ∧ x3.toInt ≤ 9999) := uz_f er_8 c_10
          refine lv_iconst (v := (-1)) hx hb dX6_pass_58 (by decide) ?_
          exact ur_iret C h hr hlocks (⟨rfl, by rw [if_pos (by omega), if_neg c_7, if_neg c_10]⟩) dX6_pass_59
        · skip
          have c_10 : 0 ≤ x3.toInt ∧ x3.toInt ≤ 9999 := uz_t er_8 c_10
          refine lv_aload_n hx hb dX6_pass_45 rfl (lv_at hl 0 rfl) ?_
          refine ur_get C h 0 (by decide) (uc_0 E _) (Cn := RX6) (T := TX6) (N := 6) rfl hin6 0 (by decide) (by decide +kernel) rfl dX6_pass_46 ?_
          refine lv_iload_n hx hb dX6_pass_49 rfl (lv_at hl 1 rfl) ?_
          refine ur_eq (y := nI (tn x1)) enx1 ?_
          refine lv_iload_n hx hb dX6_pass_50 rfl (lv_at hl 2 rfl) ?_
          refine ur_eq (y := nI (tn x2)) enx2 ?_
          refine lv_iload_n hx hb dX6_pass_51 rfl (lv_at hl 3 rfl) ?_
          refine ur_callVi C h (k := 1) (As := [.int (nI (tn x1)), .int (nI (tn x2)), .int x3]) (rest := []) (k_X1_passIn l E hI M (tn x1) (tn x2) x3 (by omega) (by omega) ht) (cwV 3 hts gX6_pass_X1_passIn rfl rfl rfl (by decide +kernel) ⟨Nat.le_of_ble_eq_true rfl, Nat.le_of_ble_eq_true rfl⟩) (by decide) (uc_1 E _) (T := TX1) (N := 11) rfl rfl hl.1 rfl (Nat.le_of_ble_eq_true rfl) dX6_pass_52 (fun r_11 M_12 H locs hw_12 h => ?_)
          obtain ⟨hu, er_11⟩ := hw_12
          subst hu
          refine ur_eq (y := xPassIn M (tn x1) (tn x2) x3) er_11 ?_
          refine lv_goto (tgt := 59) hx hb dX6_pass_55 (by decide) ?_
          exact ur_iret C h hr hlocks (⟨rfl, by rw [if_pos (by omega), if_neg c_7, if_pos c_10]⟩) dX6_pass_59
      · skip
        refine lv_aload_n hx hb dX6_pass_24 rfl (lv_at hl 0 rfl) ?_
        refine ur_get C h 0 (by decide) (uc_0 E _) (Cn := RX6) (T := TX6) (N := 6) rfl hin6 0 (by decide) (by decide +kernel) rfl dX6_pass_25 ?_
        refine lv_iload_n hx hb dX6_pass_28 rfl (lv_at hl 1 rfl) ?_
        refine ur_eq (y := nI (tn x1)) enx1 ?_
        refine lv_iload_n hx hb dX6_pass_29 rfl (lv_at hl 2 rfl) ?_
        refine ur_eq (y := nI (tn x2)) enx2 ?_
        refine ur_callVi C h (k := 1) (As := [.int (nI (tn x1)), .int (nI (tn x2))]) (rest := []) (k_X1_passNow l E hI M (tn x1) (tn x2) (by omega) (by omega) ht) (cwV 2 hts gX6_pass_X1_passNow rfl rfl rfl (by decide +kernel) ⟨Nat.le_of_ble_eq_true rfl, Nat.le_of_ble_eq_true rfl⟩) (by decide) (uc_1 E _) (T := TX1) (N := 11) rfl rfl hl.1 rfl (Nat.le_of_ble_eq_true rfl) dX6_pass_30 (fun r_13 M_14 H locs hw_14 h => ?_)
        obtain ⟨hu, er_13⟩ := hw_14
        subst hu
        refine ur_eq (y := xPassIn M (tn x1) (tn x2) (M.1 7 4)) er_13 ?_
        exact ur_iret C h hr hlocks (⟨rfl, by rw [if_pos (by omega), if_pos c_7]⟩) dX6_pass_33
    · skip
      have c_6 : ¬ (0 ≤ x2.toInt ∧ x2.toInt < nw) := uz_f er_4 c_6
      refine lv_iconst (v := (-1)) hx hb dX6_pass_16 (by decide) ?_
      exact ur_iret C h hr hlocks (⟨rfl, by rw [if_neg (by omega)]⟩) dX6_pass_17
set_option maxHeartbeats 1000000 in
set_option maxRecDepth 100000 in
theorem k_X6_wrongs (l : Launch) (E : uE) (hI : uI E) (M : uM) (x1 : Int32) (n : Nat) (hn : M.1 1 0 = nI n) (hn6 : n ≤ 6) (nw : Nat) (hnw : M.1 1 4 = nI nw) (hnw6 : nw ≤ 6) (ht : ¬ M.1 1 7 = 0) : Met l yX6_wrongs wsX6_wrongs ({ frames := 7, cells := 0, slots := 0, locals := 165 }) (va_Pc [.ref (E.2.1 0), .int x1] (uB E M)) (va_Qi (fun r u => M = u ∧ r = if 0 ≤ x1.toInt ∧ x1.toInt < nw then xWrongs M n (tn x1) else -1) (uP E) (uA E)) 0 0 (uA E) := by
  have hin6 : ∀ w ∈ wsX60, w ∈ wsX6_wrongs := by decide +kernel
  refine u_start (cc := cX6_wrongs) (maxL := 2) (ret := (some .int)) hI (by decide) rfl (Nat.le_of_ble_eq_true rfl) ?_
  intro p_ e_ s_ m_ bl_ me_ c_ C hr hlocks h ls hl
  have hx := C.1.1
  have hb := C.1.2.1
  have hown : s_.vm.findClass RX6 = some m_.cls := C.1.2.2.2.1
  have hts := C.1.2.2.2.2
  have hl : lv_has ls 2 [(0, .ref (E.2.1 0)), (1, .int x1)] := hl
  refine lv_aload_n hx hb dX6_wrongs_0 rfl (lv_at hl 0 rfl) ?_
  refine lv_iload_n hx hb dX6_wrongs_1 rfl (lv_at hl 1 rfl) ?_
  refine ur_callVi C h (k := 0) (As := [.int x1]) (rest := []) (k_X6_isWord l E hI M x1 nw hnw hnw6) (cwV 1 hts gX6_wrongs_X6_isWord rfl rfl rfl (by decide +kernel) ⟨Nat.le_of_ble_eq_true rfl, Nat.le_of_ble_eq_true rfl⟩) (by decide) (uc_0 E _) (T := TX6) (N := 6) rfl rfl hl.1 rfl (Nat.le_of_ble_eq_true rfl) dX6_wrongs_2 (fun r_1 M_2 H locs hw_2 h => ?_)
  obtain ⟨hu, er_1⟩ := hw_2
  subst hu
  refine lv_if_eq (tgt := 19) hx hb dX6_wrongs_5 (by decide) (fun c_3 => ?_) (fun c_3 => ?_)
  · skip
    have c_3 : ¬ (0 ≤ x1.toInt ∧ x1.toInt < nw) := uz_f er_1 c_3
    refine lv_iconst (v := (-1)) hx hb dX6_wrongs_19 (by decide) ?_
    exact ur_iret C h hr hlocks (⟨rfl, by rw [if_neg c_3]⟩) dX6_wrongs_20
  · skip
    have c_3 : 0 ≤ x1.toInt ∧ x1.toInt < nw := uz_t er_1 c_3
    obtain ⟨hnx1, enx1⟩ := u_tn c_3 (by omega)
    refine lv_aload_n hx hb dX6_wrongs_8 rfl (lv_at hl 0 rfl) ?_
    refine ur_get C h 0 (by decide) (uc_0 E _) (Cn := RX6) (T := TX6) (N := 6) rfl hin6 3 (by decide) (by decide +kernel) rfl dX6_wrongs_9 ?_
    refine lv_iload_n hx hb dX6_wrongs_12 rfl (lv_at hl 1 rfl) ?_
    refine ur_eq (y := nI (tn x1)) enx1 ?_
    refine ur_callVi C h (k := 235) (As := [.int (nI (tn x1))]) (rest := []) (k_X2_wrongsBy l E hI M (tn x1) (by omega) n hn hn6 ht) (cwV 1 hts gX6_wrongs_X2_wrongsBy rfl rfl rfl (by decide +kernel) ⟨Nat.le_of_ble_eq_true rfl, Nat.le_of_ble_eq_true rfl⟩) (by decide) (uc_235 E _) (T := TX2) (N := 5) rfl rfl hl.1 rfl (Nat.le_of_ble_eq_true rfl) dX6_wrongs_13 (fun r_4 M_5 H locs hw_5 h => ?_)
    obtain ⟨hu, er_4⟩ := hw_5
    subst hu
    refine ur_eq (y := xWrongs M n (tn x1)) er_4 ?_
    refine lv_goto (tgt := 20) hx hb dX6_wrongs_16 (by decide) ?_
    exact ur_iret C h hr hlocks (⟨rfl, by rw [if_pos c_3]⟩) dX6_wrongs_20
set_option maxHeartbeats 1000000 in
set_option maxRecDepth 100000 in
theorem k_X6_parting (l : Launch) (E : uE) (hI : uI E) (M : uM) (x1 : Int32) (n : Nat) (hn : M.1 1 0 = nI n) (hn6 : n ≤ 6) (nw : Nat) (hnw : M.1 1 4 = nI nw) (hnw6 : nw ≤ 6) (ht : ¬ M.1 1 7 = 0) : Met l yX6_parting wsX6_parting ({ frames := 8, cells := 0, slots := 0, locals := 189 }) (va_Pc [.ref (E.2.1 0), .int x1] (uB E M)) (va_Qi (fun r u => M = u ∧ r = if 0 ≤ x1.toInt ∧ x1.toInt ≤ 1 then (if nw = 0 then -4 else if x1 = 0 then nI (xPart (xWrongs M n) (nw - 1)).1 else xWrongs M n (xPart (xWrongs M n) (nw - 1)).1) else -1) (uP E) (uA E)) 0 0 (uA E) := by
  have hin1 : ∀ w ∈ wsX10, w ∈ wsX6_parting := by decide +kernel
  have hin6 : ∀ w ∈ wsX60, w ∈ wsX6_parting := by decide +kernel
  refine u_start (cc := cX6_parting) (maxL := 3) (ret := (some .int)) hI (by decide) rfl (Nat.le_of_ble_eq_true rfl) ?_
  intro p_ e_ s_ m_ bl_ me_ c_ C hr hlocks h ls hl
  have hx := C.1.1
  have hb := C.1.2.1
  have hown : s_.vm.findClass RX6 = some m_.cls := C.1.2.2.2.1
  have hts := C.1.2.2.2.2
  have hl : lv_has ls 3 [(0, .ref (E.2.1 0)), (1, .int x1)] := hl
  refine lv_iload_n hx hb dX6_parting_0 rfl (lv_at hl 1 rfl) ?_
  refine lv_iconst (v := 0) hx hb dX6_parting_1 (by decide) ?_
  refine lv_iconst (v := 1) hx hb dX6_parting_2 (by decide) ?_
  refine ur_callSi C h (As := [.int x1, .int 0, .int 1]) (rest := []) (k_X6_isIn l E hI M x1 0 1) (va_cwS 3 hts gX6_parting_X6_isIn rfl rfl rfl (by decide +kernel) ⟨Nat.le_of_ble_eq_true rfl, Nat.le_of_ble_eq_true rfl⟩) rfl hl.1 rfl (Nat.le_of_ble_eq_true rfl) dX6_parting_3 (fun r_1 M_2 H locs hw_2 h => ?_)
  obtain ⟨hu, er_1⟩ := hw_2
  subst hu
  have er_1 : r_1 = if 0 ≤ x1.toInt ∧ x1.toInt ≤ 1 then 1 else 0 := u_in32 (x := x1.toInt) rfl rfl rfl er_1
  refine lv_if_ne (tgt := 11) hx hb dX6_parting_6 (by decide) (fun c_3 => ?_) (fun c_3 => ?_)
  · skip
    have c_3 : 0 ≤ x1.toInt ∧ x1.toInt ≤ 1 := uz_t er_1 c_3
    refine lv_aload_n hx hb dX6_parting_11 rfl (lv_at hl 0 rfl) ?_
    refine ur_get C h 0 (by decide) (uc_0 E _) (Cn := RX6) (T := TX6) (N := 6) rfl hin6 0 (by decide) (by decide +kernel) rfl dX6_parting_12 ?_
    refine ur_get C h 1 (by decide) (uc_1 E _) (Cn := RX1) (T := TX1) (N := 11) rfl hin1 4 (by decide) (by decide +kernel) rfl dX6_parting_15 ?_
    refine ur_eq (y := nI nw) (hnw) ?_
    refine lv_if_ne (tgt := 24) hx hb dX6_parting_18 (by decide) (fun c_4 => ?_) (fun c_4 => ?_)
    · skip
      have c_4 : ¬ nw = 0 := fun z => c_4 ((nI_eq (a := nw) (b := 0) (by omega) (by omega)).mpr z)
      refine lv_aload_n hx hb dX6_parting_24 rfl (lv_at hl 0 rfl) ?_
      refine ur_get C h 0 (by decide) (uc_0 E _) (Cn := RX6) (T := TX6) (N := 6) rfl hin6 3 (by decide) (by decide +kernel) rfl dX6_parting_25 ?_
      refine ur_callVi C h (k := 235) (As := []) (rest := []) (k_X2_partingWord l E hI M n hn hn6 nw hnw hnw6 ht (by omega)) (cwV 0 hts gX6_parting_X2_partingWord rfl rfl rfl (by decide +kernel) ⟨Nat.le_of_ble_eq_true rfl, Nat.le_of_ble_eq_true rfl⟩) (by decide) (uc_235 E _) (T := TX2) (N := 5) rfl rfl hl.1 rfl (Nat.le_of_ble_eq_true rfl) dX6_parting_28 (fun r_5 M_6 H locs hw_6 h => ?_)
      obtain ⟨hu, er_5⟩ := hw_6
      subst hu
      refine ur_eq (y := nI ((xPart (xWrongs M n) (nw - 1)).1)) er_5 ?_
      have hpw : (xPart (xWrongs M n) (nw - 1)).1 < 6 := Nat.lt_of_le_of_lt (xPart_le _ _) (by omega)
      refine lv_istore_n (lv' := [(2, .int (nI ((xPart (xWrongs M n) (nw - 1)).1))), (0, .ref (E.2.1 0)), (1, .int x1)]) hx hb dX6_parting_31 rfl hl (by decide) rfl (fun ls hl => ?_)
      refine lv_iload_n hx hb dX6_parting_32 rfl (lv_at hl 2 rfl) ?_
      refine lv_if_ne (tgt := 40) hx hb dX6_parting_33 (by decide) (fun c_7 => ?_) (fun c_7 => ?_)
      · skip
        refine lv_aload_n hx hb dX6_parting_40 rfl (lv_at hl 1 rfl) ?_
        refine ur_get C h 0 (by decide) (uc_0 E _) (Cn := RX6) (T := TX6) (N := 6) rfl hin6 3 (by decide) (by decide +kernel) rfl dX6_parting_41 ?_
        refine lv_iload_n hx hb dX6_parting_44 rfl (lv_at hl 0 rfl) ?_
        refine ur_callVi C h (k := 235) (As := [.int (nI ((xPart (xWrongs M n) (nw - 1)).1))]) (rest := []) (k_X2_wrongsBy l E hI M ((xPart (xWrongs M n) (nw - 1)).1) (by omega) n hn hn6 ht) (cwV 1 hts gX6_parting_X2_wrongsBy rfl rfl rfl (by decide +kernel) ⟨Nat.le_of_ble_eq_true rfl, Nat.le_of_ble_eq_true rfl⟩) (by decide) (uc_235 E _) (T := TX2) (N := 5) rfl rfl hl.1 rfl (Nat.le_of_ble_eq_true rfl) dX6_parting_45 (fun r_8 M_9 H locs hw_9 h => ?_)
        obtain ⟨hu, er_8⟩ := hw_9
        subst hu
        refine ur_eq (y := xWrongs M n ((xPart (xWrongs M n) (nw - 1)).1)) er_8 ?_
        exact ur_iret C h hr hlocks (⟨rfl, by rw [if_pos c_3, if_neg c_4, if_neg c_7]⟩) dX6_parting_48
      · skip
        refine lv_iload_n hx hb dX6_parting_36 rfl (lv_at hl 0 rfl) ?_
        refine lv_goto (tgt := 48) hx hb dX6_parting_37 (by decide) ?_
        exact ur_iret C h hr hlocks (⟨rfl, by rw [if_pos c_3, if_neg c_4, if_pos c_7]⟩) dX6_parting_48
    · skip
      have c_4 : nw = 0 := (nI_eq (a := nw) (b := 0) (by omega) (by omega)).mp c_4
      refine lv_bipush (v := (-4)) hx hb dX6_parting_21 (by decide) ?_
      exact ur_iret C h hr hlocks (⟨rfl, by rw [if_pos c_3, if_pos c_4]⟩) dX6_parting_23
  · skip
    have c_3 : ¬ (0 ≤ x1.toInt ∧ x1.toInt ≤ 1) := uz_f er_1 c_3
    refine lv_iconst (v := (-1)) hx hb dX6_parting_9 (by decide) ?_
    exact ur_iret C h hr hlocks (⟨rfl, by rw [if_neg c_3]⟩) dX6_parting_10
set_option maxHeartbeats 1000000 in
set_option maxRecDepth 100000 in
theorem k_X6_learn (l : Launch) (E : uE) (hI : uI E) (M : uM) (x1 x2 x3 x4 : Int32) (n : Nat) (hn : M.1 1 0 = nI n) (hn6 : n ≤ 6) (nw : Nat) (hnw : M.1 1 4 = nI nw) (hnw6 : nw ≤ 6) (ht : ¬ M.1 1 7 = 0) (hsnd : ∀ w, w < nw → ∃ s, s < 64 ∧ M.1 5 w = nI s) : Met l yX6_learn wsX6_learn ({ frames := 6, cells := 0, slots := 0, locals := 151 }) (va_Pc [.ref (E.2.1 0), .int x1, .int x2, .int x3, .int x4] (uB E M)) (va_Qi (fun r u => M = u ∧ r = if (0 ≤ x1.toInt ∧ x1.toInt < n) ∧ (0 ≤ x2.toInt ∧ x2.toInt < nw) ∧ (0 ≤ x3.toInt ∧ x3.toInt ≤ 6) ∧ (0 ≤ x4.toInt ∧ x4.toInt ≤ 1) then (if x4 = 0 then nI (xLearn (xOk (tn (xOpen M (tn x1) (tn x2))) (tn x3)) (fun s => xTaught M (tn x1) (tn x2) (nI s)) (tn (xOpen M (tn x1) (tn x2)))).1 else xTaught M (tn x1) (tn x2) (nI (xLearn (xOk (tn (xOpen M (tn x1) (tn x2))) (tn x3)) (fun s => xTaught M (tn x1) (tn x2) (nI s)) (tn (xOpen M (tn x1) (tn x2)))).1)) else -1) (uP E) (uA E)) 0 0 (uA E) := by
  have hin6 : ∀ w ∈ wsX60, w ∈ wsX6_learn := by decide +kernel
  refine u_start (cc := cX6_learn) (maxL := 6) (ret := (some .int)) hI (by decide) rfl (Nat.le_of_ble_eq_true rfl) ?_
  intro p_ e_ s_ m_ bl_ me_ c_ C hr hlocks h ls hl
  have hx := C.1.1
  have hb := C.1.2.1
  have hown : s_.vm.findClass RX6 = some m_.cls := C.1.2.2.2.1
  have hts := C.1.2.2.2.2
  have hl : lv_has ls 6 [(0, .ref (E.2.1 0)), (1, .int x1), (2, .int x2), (3, .int x3), (4, .int x4)] := hl
  refine lv_aload_n hx hb dX6_learn_0 rfl (lv_at hl 0 rfl) ?_
  refine lv_iload_n hx hb dX6_learn_1 rfl (lv_at hl 1 rfl) ?_
  refine ur_callVi C h (k := 0) (As := [.int x1]) (rest := []) (k_X6_isSpeaker l E hI M x1 n hn hn6) (cwV 1 hts gX6_learn_X6_isSpeaker rfl rfl rfl (by decide +kernel) ⟨Nat.le_of_ble_eq_true rfl, Nat.le_of_ble_eq_true rfl⟩) (by decide) (uc_0 E _) (T := TX6) (N := 6) rfl rfl hl.1 rfl (Nat.le_of_ble_eq_true rfl) dX6_learn_2 (fun r_1 M_2 H locs hw_2 h => ?_)
  obtain ⟨hu, er_1⟩ := hw_2
  subst hu
  refine lv_if_eq (tgt := 36) hx hb dX6_learn_5 (by decide) (fun c_3 => ?_) (fun c_3 => ?_)
  · skip
    have c_3 : ¬ (0 ≤ x1.toInt ∧ x1.toInt < n) := uz_f er_1 c_3
    refine lv_iconst (v := (-1)) hx hb dX6_learn_36 (by decide) ?_
    exact ur_iret C h hr hlocks (⟨rfl, by rw [if_neg (by omega)]⟩) dX6_learn_37
  · skip
    have c_3 : 0 ≤ x1.toInt ∧ x1.toInt < n := uz_t er_1 c_3
    refine lv_aload_n hx hb dX6_learn_8 rfl (lv_at hl 0 rfl) ?_
    refine lv_iload_n hx hb dX6_learn_9 rfl (lv_at hl 2 rfl) ?_
    refine ur_callVi C h (k := 0) (As := [.int x2]) (rest := []) (k_X6_isWord l E hI M x2 nw hnw hnw6) (cwV 1 hts gX6_learn_X6_isWord rfl rfl rfl (by decide +kernel) ⟨Nat.le_of_ble_eq_true rfl, Nat.le_of_ble_eq_true rfl⟩) (by decide) (uc_0 E _) (T := TX6) (N := 6) rfl rfl hl.1 rfl (Nat.le_of_ble_eq_true rfl) dX6_learn_10 (fun r_4 M_5 H locs hw_5 h => ?_)
    obtain ⟨hu, er_4⟩ := hw_5
    subst hu
    refine lv_if_eq (tgt := 36) hx hb dX6_learn_13 (by decide) (fun c_6 => ?_) (fun c_6 => ?_)
    · skip
      have c_6 : ¬ (0 ≤ x2.toInt ∧ x2.toInt < nw) := uz_f er_4 c_6
      refine lv_iconst (v := (-1)) hx hb dX6_learn_36 (by decide) ?_
      exact ur_iret C h hr hlocks (⟨rfl, by rw [if_neg (by omega)]⟩) dX6_learn_37
    · skip
      have c_6 : 0 ≤ x2.toInt ∧ x2.toInt < nw := uz_t er_4 c_6
      refine lv_iload_n hx hb dX6_learn_16 rfl (lv_at hl 3 rfl) ?_
      refine lv_iconst (v := 0) hx hb dX6_learn_17 (by decide) ?_
      refine lv_bipush (v := 6) hx hb dX6_learn_18 (by decide) ?_
      refine ur_callSi C h (As := [.int x3, .int 0, .int 6]) (rest := []) (k_X6_isIn l E hI M x3 0 6) (va_cwS 3 hts gX6_learn_X6_isIn rfl rfl rfl (by decide +kernel) ⟨Nat.le_of_ble_eq_true rfl, Nat.le_of_ble_eq_true rfl⟩) rfl hl.1 rfl (Nat.le_of_ble_eq_true rfl) dX6_learn_20 (fun r_7 M_8 H locs hw_8 h => ?_)
      obtain ⟨hu, er_7⟩ := hw_8
      subst hu
      have er_7 : r_7 = if 0 ≤ x3.toInt ∧ x3.toInt ≤ 6 then 1 else 0 := u_in32 (x := x3.toInt) rfl rfl rfl er_7
      refine lv_if_eq (tgt := 36) hx hb dX6_learn_23 (by decide) (fun c_9 => ?_) (fun c_9 => ?_)
      · skip
        have c_9 : ¬ (0 ≤ x3.toInt ∧ x3.toInt ≤ 6) := uz_f er_7 c_9
        refine lv_iconst (v := (-1)) hx hb dX6_learn_36 (by decide) ?_
        exact ur_iret C h hr hlocks (⟨rfl, by rw [if_neg (by omega)]⟩) dX6_learn_37
      · skip
        have c_9 : 0 ≤ x3.toInt ∧ x3.toInt ≤ 6 := uz_t er_7 c_9
        refine lv_iload hx hb dX6_learn_26 (lv_at hl 4 rfl) ?_
        refine lv_iconst (v := 0) hx hb dX6_learn_28 (by decide) ?_
        refine lv_iconst (v := 1) hx hb dX6_learn_29 (by decide) ?_
        refine ur_callSi C h (As := [.int x4, .int 0, .int 1]) (rest := []) (k_X6_isIn l E hI M x4 0 1) (va_cwS 3 hts gX6_learn_X6_isIn rfl rfl rfl (by decide +kernel) ⟨Nat.le_of_ble_eq_true rfl, Nat.le_of_ble_eq_true rfl⟩) rfl hl.1 rfl (Nat.le_of_ble_eq_true rfl) dX6_learn_30 (fun r_10 M_11 H locs hw_11 h => ?_)
        obtain ⟨hu, er_10⟩ := hw_11
        subst hu
        have er_10 : r_10 = if 0 ≤ x4.toInt ∧ x4.toInt ≤ 1 then 1 else 0 := u_in32 (x := x4.toInt) rfl rfl rfl er_10
        refine lv_if_ne (tgt := 38) hx hb dX6_learn_33 (by decide) (fun c_12 => ?_) (fun c_12 => ?_)
        · skip
          have c_12 : 0 ≤ x4.toInt ∧ x4.toInt ≤ 1 := uz_t er_10 c_12
          obtain ⟨hnx1, enx1⟩ := u_tn c_3 (by omega)
          obtain ⟨hnx2, enx2⟩ := u_tn c_6 (by omega)
          obtain ⟨hnx3, enx3⟩ := u_tn (x := x3) (n := 7) ⟨by omega, by omega⟩ (by omega)
          obtain ⟨s5, hs5, es5⟩ := hsnd (tn x2) (by omega)
          obtain ⟨o, ho6, ho0⟩ := u_and63 s5 hs5 (M.1 9 (tn x1) ^^^ (-1))
          have ho : xOpen M (tn x1) (tn x2) = nI o := by unfold xOpen; rw [es5]; exact ho0
          have hto : tn (xOpen M (tn x1) (tn x2)) = o := by rw [ho]; exact tn_nI (by omega)
          refine lv_aload_n hx hb dX6_learn_38 rfl (lv_at hl 0 rfl) ?_
          refine ur_get C h 0 (by decide) (uc_0 E _) (Cn := RX6) (T := TX6) (N := 6) rfl hin6 3 (by decide) (by decide +kernel) rfl dX6_learn_39 ?_
          refine lv_iload_n hx hb dX6_learn_42 rfl (lv_at hl 1 rfl) ?_
          refine ur_eq (y := nI (tn x1)) enx1 ?_
          refine lv_iload_n hx hb dX6_learn_43 rfl (lv_at hl 2 rfl) ?_
          refine ur_eq (y := nI (tn x2)) enx2 ?_
          refine lv_iload_n hx hb dX6_learn_44 rfl (lv_at hl 3 rfl) ?_
          refine ur_eq (y := nI (tn x3)) enx3 ?_
          refine ur_callVi C h (k := 235) (As := [.int (nI (tn x1)), .int (nI (tn x2)), .int (nI (tn x3))]) (rest := []) (k_X2_soundsToLearn l E hI M (tn x1) (tn x2) (tn x3) o (by omega) (by omega) (by omega) ho ho6 ht) (cwV 3 hts gX6_learn_X2_soundsToLearn rfl rfl rfl (by decide +kernel) ⟨Nat.le_of_ble_eq_true rfl, Nat.le_of_ble_eq_true rfl⟩) (by decide) (uc_235 E _) (T := TX2) (N := 5) rfl rfl hl.1 rfl (Nat.le_of_ble_eq_true rfl) dX6_learn_45 (fun r_13 M_14 H locs hw_14 h => ?_)
          obtain ⟨hu, er_13⟩ := hw_14
          subst hu
          refine ur_eq (y := nI ((xLearn (xOk o (tn x3)) (fun s => xTaught M (tn x1) (tn x2) (nI s)) o).1)) er_13 ?_
          refine lv_istore (lv' := [(5, .int (nI ((xLearn (xOk o (tn x3)) (fun s => xTaught M (tn x1) (tn x2) (nI s)) o).1))), (0, .ref (E.2.1 0)), (1, .int x1), (2, .int x2), (3, .int x3), (4, .int x4)]) hx hb dX6_learn_48 hl (by decide) rfl (fun ls hl => ?_)
          refine lv_iload hx hb dX6_learn_50 (lv_at hl 5 rfl) ?_
          refine lv_if_ne (tgt := 60) hx hb dX6_learn_52 (by decide) (fun c_15 => ?_) (fun c_15 => ?_)
          · skip
            refine lv_aload_n hx hb dX6_learn_60 rfl (lv_at hl 1 rfl) ?_
            refine ur_get C h 0 (by decide) (uc_0 E _) (Cn := RX6) (T := TX6) (N := 6) rfl hin6 3 (by decide) (by decide +kernel) rfl dX6_learn_61 ?_
            refine lv_iload_n hx hb dX6_learn_64 rfl (lv_at hl 2 rfl) ?_
            refine ur_eq (y := nI (tn x1)) enx1 ?_
            refine lv_iload_n hx hb dX6_learn_65 rfl (lv_at hl 3 rfl) ?_
            refine ur_eq (y := nI (tn x2)) enx2 ?_
            refine lv_iload hx hb dX6_learn_66 (lv_at hl 0 rfl) ?_
            refine ur_callVi C h (k := 235) (As := [.int (nI (tn x1)), .int (nI (tn x2)), .int (nI ((xLearn (xOk o (tn x3)) (fun s => xTaught M (tn x1) (tn x2) (nI s)) o).1))]) (rest := []) (k_X2_passOnceTaught l E hI M (tn x1) (tn x2) (nI ((xLearn (xOk o (tn x3)) (fun s => xTaught M (tn x1) (tn x2) (nI s)) o).1)) (by omega) (by omega) ht) (cwV 3 hts gX6_learn_X2_passOnceTaught rfl rfl rfl (by decide +kernel) ⟨Nat.le_of_ble_eq_true rfl, Nat.le_of_ble_eq_true rfl⟩) (by decide) (uc_235 E _) (T := TX2) (N := 5) rfl rfl hl.1 rfl (Nat.le_of_ble_eq_true rfl) dX6_learn_68 (fun r_16 M_17 H locs hw_17 h => ?_)
            obtain ⟨hu, er_16⟩ := hw_17
            subst hu
            refine ur_eq (y := xTaught M (tn x1) (tn x2) (nI ((xLearn (xOk o (tn x3)) (fun s => xTaught M (tn x1) (tn x2) (nI s)) o).1))) er_16 ?_
            exact ur_iret C h hr hlocks (⟨rfl, by rw [if_pos (by omega), if_neg c_15, hto]⟩) dX6_learn_71
          · skip
            refine lv_iload hx hb dX6_learn_55 (lv_at hl 0 rfl) ?_
            refine lv_goto (tgt := 71) hx hb dX6_learn_57 (by decide) ?_
            exact ur_iret C h hr hlocks (⟨rfl, by rw [if_pos (by omega), if_pos c_15, hto]⟩) dX6_learn_71
        · skip
          have c_12 : ¬ (0 ≤ x4.toInt ∧ x4.toInt ≤ 1) := uz_f er_10 c_12
          refine lv_iconst (v := (-1)) hx hb dX6_learn_36 (by decide) ?_
          exact ur_iret C h hr hlocks (⟨rfl, by rw [if_neg (by omega)]⟩) dX6_learn_37
set_option maxHeartbeats 1000000 in
set_option maxRecDepth 100000 in
theorem k_X6_cross (l : Launch) (E : uE) (hI : uI E) (M : uM) (x1 x2 x3 : Int32) (n : Nat) (hn : M.1 1 0 = nI n) (hn6 : n ≤ 6) (nw : Nat) (hnw : M.1 1 4 = nI nw) (hnw6 : nw ≤ 6) (ht : ¬ M.1 1 7 = 0) (h0 : Nat) (hh : M.1 7 4 = nI h0) (hh9 : h0 ≤ 9999) : Met l yX6_cross wsX6_cross ({ frames := 6, cells := 0, slots := 0, locals := 147 }) (va_Pc [.ref (E.2.1 0), .int x1, .int x2, .int x3] (uB E M)) (va_Qi (fun r u => M = u ∧ r = if (0 ≤ x1.toInt ∧ x1.toInt < n) ∧ (0 ≤ x2.toInt ∧ x2.toInt < nw) ∧ (0 ≤ x3.toInt ∧ x3.toInt ≤ 1) then (if x3 = 0 then (uCross (xPassIn M (tn x1) (tn x2)) (nI h0) 23) else xPassIn M (tn x1) (tn x2) (uCross (xPassIn M (tn x1) (tn x2)) (nI h0) 23)) else -1) (uP E) (uA E)) 0 0 (uA E) := by
  have hin6 : ∀ w ∈ wsX60, w ∈ wsX6_cross := by decide +kernel
  refine u_start (cc := cX6_cross) (maxL := 5) (ret := (some .int)) hI (by decide) rfl (Nat.le_of_ble_eq_true rfl) ?_
  intro p_ e_ s_ m_ bl_ me_ c_ C hr hlocks h ls hl
  have hx := C.1.1
  have hb := C.1.2.1
  have hown : s_.vm.findClass RX6 = some m_.cls := C.1.2.2.2.1
  have hts := C.1.2.2.2.2
  have hl : lv_has ls 5 [(0, .ref (E.2.1 0)), (1, .int x1), (2, .int x2), (3, .int x3)] := hl
  refine lv_aload_n hx hb dX6_cross_0 rfl (lv_at hl 0 rfl) ?_
  refine lv_iload_n hx hb dX6_cross_1 rfl (lv_at hl 1 rfl) ?_
  refine ur_callVi C h (k := 0) (As := [.int x1]) (rest := []) (k_X6_isSpeaker l E hI M x1 n hn hn6) (cwV 1 hts gX6_cross_X6_isSpeaker rfl rfl rfl (by decide +kernel) ⟨Nat.le_of_ble_eq_true rfl, Nat.le_of_ble_eq_true rfl⟩) (by decide) (uc_0 E _) (T := TX6) (N := 6) rfl rfl hl.1 rfl (Nat.le_of_ble_eq_true rfl) dX6_cross_2 (fun r_1 M_2 H locs hw_2 h => ?_)
  obtain ⟨hu, er_1⟩ := hw_2
  subst hu
  refine lv_if_eq (tgt := 25) hx hb dX6_cross_5 (by decide) (fun c_3 => ?_) (fun c_3 => ?_)
  · skip
    have c_3 : ¬ (0 ≤ x1.toInt ∧ x1.toInt < n) := uz_f er_1 c_3
    refine lv_iconst (v := (-1)) hx hb dX6_cross_25 (by decide) ?_
    exact ur_iret C h hr hlocks (⟨rfl, by rw [if_neg (by omega)]⟩) dX6_cross_26
  · skip
    have c_3 : 0 ≤ x1.toInt ∧ x1.toInt < n := uz_t er_1 c_3
    refine lv_aload_n hx hb dX6_cross_8 rfl (lv_at hl 0 rfl) ?_
    refine lv_iload_n hx hb dX6_cross_9 rfl (lv_at hl 2 rfl) ?_
    refine ur_callVi C h (k := 0) (As := [.int x2]) (rest := []) (k_X6_isWord l E hI M x2 nw hnw hnw6) (cwV 1 hts gX6_cross_X6_isWord rfl rfl rfl (by decide +kernel) ⟨Nat.le_of_ble_eq_true rfl, Nat.le_of_ble_eq_true rfl⟩) (by decide) (uc_0 E _) (T := TX6) (N := 6) rfl rfl hl.1 rfl (Nat.le_of_ble_eq_true rfl) dX6_cross_10 (fun r_4 M_5 H locs hw_5 h => ?_)
    obtain ⟨hu, er_4⟩ := hw_5
    subst hu
    refine lv_if_eq (tgt := 25) hx hb dX6_cross_13 (by decide) (fun c_6 => ?_) (fun c_6 => ?_)
    · skip
      have c_6 : ¬ (0 ≤ x2.toInt ∧ x2.toInt < nw) := uz_f er_4 c_6
      refine lv_iconst (v := (-1)) hx hb dX6_cross_25 (by decide) ?_
      exact ur_iret C h hr hlocks (⟨rfl, by rw [if_neg (by omega)]⟩) dX6_cross_26
    · skip
      have c_6 : 0 ≤ x2.toInt ∧ x2.toInt < nw := uz_t er_4 c_6
      refine lv_iload_n hx hb dX6_cross_16 rfl (lv_at hl 3 rfl) ?_
      refine lv_iconst (v := 0) hx hb dX6_cross_17 (by decide) ?_
      refine lv_iconst (v := 1) hx hb dX6_cross_18 (by decide) ?_
      refine ur_callSi C h (As := [.int x3, .int 0, .int 1]) (rest := []) (k_X6_isIn l E hI M x3 0 1) (va_cwS 3 hts gX6_cross_X6_isIn rfl rfl rfl (by decide +kernel) ⟨Nat.le_of_ble_eq_true rfl, Nat.le_of_ble_eq_true rfl⟩) rfl hl.1 rfl (Nat.le_of_ble_eq_true rfl) dX6_cross_19 (fun r_7 M_8 H locs hw_8 h => ?_)
      obtain ⟨hu, er_7⟩ := hw_8
      subst hu
      have er_7 : r_7 = if 0 ≤ x3.toInt ∧ x3.toInt ≤ 1 then 1 else 0 := u_in32 (x := x3.toInt) rfl rfl rfl er_7
      refine lv_if_ne (tgt := 27) hx hb dX6_cross_22 (by decide) (fun c_9 => ?_) (fun c_9 => ?_)
      · skip
        have c_9 : 0 ≤ x3.toInt ∧ x3.toInt ≤ 1 := uz_t er_7 c_9
        obtain ⟨hnx1, enx1⟩ := u_tn c_3 (by omega)
        obtain ⟨hnx2, enx2⟩ := u_tn c_6 (by omega)
        refine lv_aload_n hx hb dX6_cross_27 rfl (lv_at hl 0 rfl) ?_
        refine ur_get C h 0 (by decide) (uc_0 E _) (Cn := RX6) (T := TX6) (N := 6) rfl hin6 3 (by decide) (by decide +kernel) rfl dX6_cross_28 ?_
        refine lv_iload_n hx hb dX6_cross_31 rfl (lv_at hl 1 rfl) ?_
        refine ur_eq (y := nI (tn x1)) enx1 ?_
        refine lv_iload_n hx hb dX6_cross_32 rfl (lv_at hl 2 rfl) ?_
        refine ur_eq (y := nI (tn x2)) enx2 ?_
        refine ur_callVi C h (k := 235) (As := [.int (nI (tn x1)), .int (nI (tn x2))]) (rest := []) (k_X2_hourToCross l E hI M (tn x1) (tn x2) h0 (by omega) (by omega) hh hh9 ht) (cwV 2 hts gX6_cross_X2_hourToCross rfl rfl rfl (by decide +kernel) ⟨Nat.le_of_ble_eq_true rfl, Nat.le_of_ble_eq_true rfl⟩) (by decide) (uc_235 E _) (T := TX2) (N := 5) rfl rfl hl.1 rfl (Nat.le_of_ble_eq_true rfl) dX6_cross_33 (fun r_10 M_11 H locs hw_11 h => ?_)
        obtain ⟨hu, er_10⟩ := hw_11
        subst hu
        refine ur_eq (y := uCross (xPassIn M (tn x1) (tn x2)) (nI h0) 23) er_10 ?_
        refine lv_topi (fun v_12 ev_12 => ?_)
        refine lv_istore (lv' := [(4, .int v_12), (0, .ref (E.2.1 0)), (1, .int x1), (2, .int x2), (3, .int x3)]) hx hb dX6_cross_36 hl (by decide) rfl (fun ls hl => ?_)
        refine lv_iload_n hx hb dX6_cross_38 rfl (lv_at hl 4 rfl) ?_
        refine lv_if_ne (tgt := 47) hx hb dX6_cross_39 (by decide) (fun c_13 => ?_) (fun c_13 => ?_)
        · skip
          refine lv_aload_n hx hb dX6_cross_47 rfl (lv_at hl 1 rfl) ?_
          refine ur_get C h 0 (by decide) (uc_0 E _) (Cn := RX6) (T := TX6) (N := 6) rfl hin6 0 (by decide) (by decide +kernel) rfl dX6_cross_48 ?_
          refine lv_iload_n hx hb dX6_cross_51 rfl (lv_at hl 2 rfl) ?_
          refine ur_eq (y := nI (tn x1)) enx1 ?_
          refine lv_iload_n hx hb dX6_cross_52 rfl (lv_at hl 3 rfl) ?_
          refine ur_eq (y := nI (tn x2)) enx2 ?_
          refine lv_iload hx hb dX6_cross_53 (lv_at hl 0 rfl) ?_
          refine ur_callVi C h (k := 1) (As := [.int (nI (tn x1)), .int (nI (tn x2)), .int v_12]) (rest := []) (k_X1_passIn l E hI M (tn x1) (tn x2) v_12 (by omega) (by omega) ht) (cwV 3 hts gX6_cross_X1_passIn rfl rfl rfl (by decide +kernel) ⟨Nat.le_of_ble_eq_true rfl, Nat.le_of_ble_eq_true rfl⟩) (by decide) (uc_1 E _) (T := TX1) (N := 11) rfl rfl hl.1 rfl (Nat.le_of_ble_eq_true rfl) dX6_cross_55 (fun r_14 M_15 H locs hw_15 h => ?_)
          obtain ⟨hu, er_14⟩ := hw_15
          subst hu
          refine ur_eq (y := xPassIn M (tn x1) (tn x2) v_12) er_14 ?_
          exact ur_iret C h hr hlocks (⟨rfl, by subst ev_12; rw [if_pos (by omega), if_neg c_13]⟩) dX6_cross_58
        · skip
          refine lv_iload hx hb dX6_cross_42 (lv_at hl 0 rfl) ?_
          refine lv_goto (tgt := 58) hx hb dX6_cross_44 (by decide) ?_
          exact ur_iret C h hr hlocks (⟨rfl, by subst ev_12; rw [if_pos (by omega), if_pos c_13]⟩) dX6_cross_58
      · skip
        have c_9 : ¬ (0 ≤ x3.toInt ∧ x3.toInt ≤ 1) := uz_f er_7 c_9
        refine lv_iconst (v := (-1)) hx hb dX6_cross_25 (by decide) ?_
        exact ur_iret C h hr hlocks (⟨rfl, by rw [if_neg (by omega)]⟩) dX6_cross_26
