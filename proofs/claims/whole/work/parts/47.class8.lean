set_option maxHeartbeats 1000000 in
set_option maxRecDepth 100000 in
theorem k_X6_line (l : Launch) (E : uE) (hI : uI E) (M : uM) (x1 x2 : Int32) (n : Nat) (hn : M.1 1 0 = nI n) (hn6 : n ≤ 6) (nw : Nat) (hnw : M.1 1 4 = nI nw) (hnw6 : nw ≤ 6) (ht : ¬ M.1 1 7 = 0) : Met l yX6_line wsX6_line ({ frames := 6, cells := 0, slots := 0, locals := 148 }) (va_Pc [.ref (E.2.1 0), .int x1, .int x2] (uB E M)) (va_Qi (fun r u => if (0 ≤ x1.toInt ∧ x1.toInt < nw) ∧ (-1) ≤ x2 then (if x2 < nI (pop (xThose M n 0)) then ∃ rr tb, u = uRow (uRow M 236 rr) 237 tb ∧ xRowsOk M (tn x1) n (pop (xThose M n 0)) rr ∧ xTabOk rr tb n (xThose M n 0) (xThose M n 0) ∧ r = (if x2 = (-1) then tb (xThose M n 0) else nI (xCome rr tb n (xThose M n 0) (tn x2)).2) else r = -4 ∧ M = u) else r = -1 ∧ M = u) (uP E) (uA E)) 0 0 (uA E) := by
  have hin2 : ∀ w ∈ wsX20, w ∈ wsX6_line := by decide +kernel
  have hin6 : ∀ w ∈ wsX60, w ∈ wsX6_line := by decide +kernel
  refine u_start (cc := cX6_line) (maxL := 4) (ret := (some .int)) hI (by decide) rfl (Nat.le_of_ble_eq_true rfl) ?_
  intro p_ e_ s_ m_ bl_ me_ c_ C hr hlocks h ls hl
  have hx := C.1.1
  have hb := C.1.2.1
  have hown : s_.vm.findClass RX6 = some m_.cls := C.1.2.2.2.1
  have hts := C.1.2.2.2.2
  have hl : lv_has ls 4 [(0, .ref (E.2.1 0)), (1, .int x1), (2, .int x2)] := hl
  refine lv_aload_n hx hb dX6_line_0 rfl (lv_at hl 0 rfl) ?_
  refine lv_iload_n hx hb dX6_line_1 rfl (lv_at hl 1 rfl) ?_
  refine ur_callVi C h (k := 0) (As := [.int x1]) (rest := []) (k_X6_isWord l E hI M x1 nw hnw hnw6) (cwV 1 hts gX6_line_X6_isWord rfl rfl rfl (by decide +kernel) ⟨Nat.le_of_ble_eq_true rfl, Nat.le_of_ble_eq_true rfl⟩) (by decide) (uc_0 E _) (T := TX6) (N := 6) rfl rfl hl.1 rfl (Nat.le_of_ble_eq_true rfl) dX6_line_2 (fun r_1 M_2 H locs hw_2 h => ?_)
  obtain ⟨hu, er_1⟩ := hw_2
  subst hu
  refine lv_if_eq (tgt := 13) hx hb dX6_line_5 (by decide) (fun c_3 => ?_) (fun c_3 => ?_)
  · skip
    have c_3 : ¬ (0 ≤ x1.toInt ∧ x1.toInt < nw) := uz_f er_1 c_3
    refine lv_iconst (v := (-1)) hx hb dX6_line_13 (by decide) ?_
    exact ur_iret C h hr hlocks (by rw [if_neg (fun z => by first | exact absurd z.1 (by assumption) | exact absurd z.2 (by assumption))]; exact ⟨rfl, rfl⟩) dX6_line_14
  · skip
    have c_3 : 0 ≤ x1.toInt ∧ x1.toInt < nw := uz_t er_1 c_3
    refine lv_iload_n hx hb dX6_line_8 rfl (lv_at hl 2 rfl) ?_
    refine lv_iconst (v := (-1)) hx hb dX6_line_9 (by decide) ?_
    refine lv_icmp_ge (tgt := 15) hx hb dX6_line_10 (by decide) (fun c_4 => ?_) (fun c_4 => ?_)
    · skip
      refine lv_aload_n hx hb dX6_line_15 rfl (lv_at hl 0 rfl) ?_
      refine ur_get C h 0 (by decide) (uc_0 E _) (Cn := RX6) (T := TX6) (N := 6) rfl hin6 0 (by decide) (by decide +kernel) rfl dX6_line_16 ?_
      refine lv_iconst (v := 0) hx hb dX6_line_19 (by decide) ?_
      refine ur_callVi C h (k := 1) (As := [.int 0]) (rest := []) (k_X1_allWhoAre l E hI M 0 n hn hn6) (cwV 1 hts gX6_line_X1_allWhoAre rfl rfl rfl (by decide +kernel) ⟨Nat.le_of_ble_eq_true rfl, Nat.le_of_ble_eq_true rfl⟩) (by decide) (uc_1 E _) (T := TX1) (N := 11) rfl rfl hl.1 rfl (Nat.le_of_ble_eq_true rfl) dX6_line_20 (fun r_5 M_6 H locs hw_6 h => ?_)
      obtain ⟨hu, er_5⟩ := hw_6
      subst hu
      refine ur_eq (y := nI (xThose M n 0)) er_5 ?_
      obtain ⟨hal2, hal6, hpn⟩ := u_those M hn6 0
      refine lv_istore_n (lv' := [(3, .int (nI (xThose M n 0))), (0, .ref (E.2.1 0)), (1, .int x1), (2, .int x2)]) hx hb dX6_line_23 rfl hl (by decide) rfl (fun ls hl => ?_)
      refine lv_iload_n hx hb dX6_line_24 rfl (lv_at hl 3 rfl) ?_
      refine lv_iload_n hx hb dX6_line_25 rfl (lv_at hl 0 rfl) ?_
      refine ur_callSi C h (As := [.int (nI (xThose M n 0))]) (rest := [.int x2]) (k_J6_bitCount_0f7a4 l E hI M (xThose M n 0) (by omega)) (va_cwS 1 hts gX6_line_J6_bitCount_0f7a4 rfl rfl rfl (by decide +kernel) ⟨Nat.le_of_ble_eq_true rfl, Nat.le_of_ble_eq_true rfl⟩) rfl hl.1 rfl (Nat.le_of_ble_eq_true rfl) dX6_line_26 (fun r_7 M_8 H locs hw_8 h => ?_)
      obtain ⟨hu, er_7⟩ := hw_8
      subst hu
      refine ur_eq (y := nI (pop (xThose M n 0))) er_7 ?_
      have hpr_7 : pop (xThose M n 0) ≤ 6 := pop6 (by omega)
      refine lv_icmp_lt (tgt := 35) hx hb dX6_line_29 (by decide) (fun c_9 => ?_) (fun c_9 => ?_)
      · skip
        obtain ⟨hnx1, enx1⟩ := u_tn c_3 (by omega)
        refine lv_aload_n hx hb dX6_line_35 rfl (lv_at hl 1 rfl) ?_
        refine ur_get C h 0 (by decide) (uc_0 E _) (Cn := RX6) (T := TX6) (N := 6) rfl hin6 3 (by decide) (by decide +kernel) rfl dX6_line_36 ?_
        refine lv_iload_n hx hb dX6_line_39 rfl (lv_at hl 2 rfl) ?_
        refine ur_eq (y := nI (tn x1)) enx1 ?_
        refine lv_iload_n hx hb dX6_line_40 rfl (lv_at hl 0 rfl) ?_
        refine ur_callVv C h (k := 235) (As := [.int (nI (tn x1)), .int (nI (xThose M n 0))]) (rest := []) (k_X2_weighLines l E hI M (tn x1) (xThose M n 0) (by omega) (by omega) n hn hn6 ht) (cwV 2 hts gX6_line_X2_weighLines rfl rfl rfl (by decide +kernel) ⟨Nat.le_of_ble_eq_true rfl, Nat.le_of_ble_eq_true rfl⟩) (by decide) (uc_235 E _) (T := TX2) (N := 5) rfl rfl hl.1 rfl (Nat.le_of_ble_eq_true rfl) dX6_line_41 (fun M_11 H locs hw_11 h => ?_)
        obtain ⟨rr, tb, eM_11, hrr, htb⟩ := hw_11
        refine lv_iload_n hx hb dX6_line_44 rfl (lv_at hl 3 rfl) ?_
        refine lv_iconst (v := (-1)) hx hb dX6_line_45 (by decide) ?_
        refine lv_icmp_ne (tgt := 61) hx hb dX6_line_46 (by decide) (fun c_12 => ?_) (fun c_12 => ?_)
        · skip
          obtain ⟨hnx2, enx2⟩ := u_k c_4 c_9 c_12 (by omega)
          refine lv_aload_n hx hb dX6_line_61 rfl (lv_at hl 1 rfl) ?_
          refine ur_get C h 0 (by decide) (uc_0 E _) (Cn := RX6) (T := TX6) (N := 6) rfl hin6 3 (by decide) (by decide +kernel) rfl dX6_line_62 ?_
          refine lv_iload_n hx hb dX6_line_65 rfl (lv_at hl 3 rfl) ?_
          refine ur_eq (y := nI (tn x2)) enx2 ?_
          refine lv_iload_n hx hb dX6_line_66 rfl (lv_at hl 0 rfl) ?_
          refine ur_callVi C h (k := 235) (As := [.int (nI (tn x2)), .int (nI (xThose M n 0))]) (rest := []) (k_X2_whoComesAt l E hI M_11 (tn x2) (xThose M n 0) (by omega) (by omega) n ((by rw [eM_11]; exact hn)) hn6 (by omega)) (cwV 2 hts gX6_line_X2_whoComesAt rfl rfl rfl (by decide +kernel) ⟨Nat.le_of_ble_eq_true rfl, Nat.le_of_ble_eq_true rfl⟩) (by decide) (uc_235 E _) (T := TX2) (N := 5) rfl rfl hl.1 rfl (Nat.le_of_ble_eq_true rfl) dX6_line_67 (fun r_13 M_14 H locs hw_14 h => ?_)
          obtain ⟨hu, er_13⟩ := hw_14
          subst hu
          refine ur_eq (y := nI ((xCome (M_11.1 236) (M_11.1 237) n (xThose M n 0) (tn x2)).2)) er_13 ?_
          exact ur_iret C h hr hlocks (by rw [if_pos ⟨c_3, c_4⟩, if_pos c_9]; exact ⟨rr, tb, eM_11, hrr, htb, by rw [if_neg c_12, eM_11]; rfl⟩) dX6_line_70
        · skip
          refine lv_aload_n hx hb dX6_line_49 rfl (lv_at hl 1 rfl) ?_
          refine ur_get C h 0 (by decide) (uc_0 E _) (Cn := RX6) (T := TX6) (N := 6) rfl hin6 3 (by decide) (by decide +kernel) rfl dX6_line_50 ?_
          refine ur_get C h 235 (by decide) (uc_235 E _) (Cn := RX2) (T := TX2) (N := 5) rfl hin2 2 (by decide) (by decide +kernel) rfl dX6_line_53 ?_
          refine lv_iload_n hx hb dX6_line_56 rfl (lv_at hl 0 rfl) ?_
          refine ur_iald C h 237 (by decide) (uc_237 E _) (xThose M n 0) (by omega) (by decide) dX6_line_57 ?_
          refine lv_goto (tgt := 70) hx hb dX6_line_58 (by decide) ?_
          exact ur_iret C h hr hlocks (by rw [if_pos ⟨c_3, c_4⟩, if_pos c_9]; exact ⟨rr, tb, eM_11, hrr, htb, by rw [if_pos c_12, eM_11]; rfl⟩) dX6_line_70
      · skip
        refine lv_bipush (v := (-4)) hx hb dX6_line_32 (by decide) ?_
        exact ur_iret C h hr hlocks (by rw [if_pos ⟨c_3, c_4⟩, if_neg c_9]; exact ⟨rfl, rfl⟩) dX6_line_34
    · skip
      refine lv_iconst (v := (-1)) hx hb dX6_line_13 (by decide) ?_
      exact ur_iret C h hr hlocks (by rw [if_neg (fun z => by first | exact absurd z.1 (by assumption) | exact absurd z.2 (by assumption))]; exact ⟨rfl, rfl⟩) dX6_line_14
set_option maxHeartbeats 1000000 in
set_option maxRecDepth 100000 in
theorem k_X6_proof (l : Launch) (E : uE) (hI : uI E) (M : uM) (x1 : Int32) (n : Nat) (hn : M.1 1 0 = nI n) (hn6 : n ≤ 6) (nw : Nat) (hnw : M.1 1 4 = nI nw) (hnw6 : nw ≤ 6) (ht : ¬ M.1 1 7 = 0) : Met l yX6_proof wsX6_proof ({ frames := 8, cells := 0, slots := 0, locals := 187 }) (va_Pc [.ref (E.2.1 0), .int x1] (uB E M)) (va_Qi (fun r u => if 0 ≤ x1.toInt ∧ x1.toInt ≤ 1000000 then ∃ rr, u = uRow M 238 rr ∧ xPasses M n nw rr ∧ xFew (fun s => uAll (xPOk M rr nw x1 s) true n) (2 ^ nw) r else r = -1 ∧ M = u) (uP E) (uA E)) 0 0 (uA E) := by
  have hin6 : ∀ w ∈ wsX60, w ∈ wsX6_proof := by decide +kernel
  refine u_start (cc := cX6_proof) (maxL := 2) (ret := (some .int)) hI (by decide) rfl (Nat.le_of_ble_eq_true rfl) ?_
  intro p_ e_ s_ m_ bl_ me_ c_ C hr hlocks h ls hl
  have hx := C.1.1
  have hb := C.1.2.1
  have hown : s_.vm.findClass RX6 = some m_.cls := C.1.2.2.2.1
  have hts := C.1.2.2.2.2
  have hl : lv_has ls 2 [(0, .ref (E.2.1 0)), (1, .int x1)] := hl
  refine lv_iload_n hx hb dX6_proof_0 rfl (lv_at hl 1 rfl) ?_
  refine lv_iconst (v := 0) hx hb dX6_proof_1 (by decide) ?_
  refine lv_ldc (v := 1000000) hx hb hown (hts (.constant RX6 206 1000000) (by decide +kernel)) dX6_proof_2 ?_
  refine ur_callSi C h (As := [.int x1, .int 0, .int 1000000]) (rest := []) (k_X6_isIn l E hI M x1 0 1000000) (va_cwS 3 hts gX6_proof_X6_isIn rfl rfl rfl (by decide +kernel) ⟨Nat.le_of_ble_eq_true rfl, Nat.le_of_ble_eq_true rfl⟩) rfl hl.1 rfl (Nat.le_of_ble_eq_true rfl) dX6_proof_4 (fun r_1 M_2 H locs hw_2 h => ?_)
  obtain ⟨hu, er_1⟩ := hw_2
  subst hu
  have er_1 : r_1 = if 0 ≤ x1.toInt ∧ x1.toInt ≤ 1000000 then 1 else 0 := u_in32 (x := x1.toInt) rfl rfl rfl er_1
  refine lv_if_eq (tgt := 21) hx hb dX6_proof_7 (by decide) (fun c_3 => ?_) (fun c_3 => ?_)
  · skip
    have c_3 : ¬ (0 ≤ x1.toInt ∧ x1.toInt ≤ 1000000) := uz_f er_1 c_3
    refine lv_iconst (v := (-1)) hx hb dX6_proof_21 (by decide) ?_
    exact ur_iret C h hr hlocks (by rw [if_neg c_3]; exact ⟨rfl, rfl⟩) dX6_proof_22
  · skip
    have c_3 : 0 ≤ x1.toInt ∧ x1.toInt ≤ 1000000 := uz_t er_1 c_3
    refine lv_aload_n hx hb dX6_proof_10 rfl (lv_at hl 0 rfl) ?_
    refine ur_get C h 0 (by decide) (uc_0 E _) (Cn := RX6) (T := TX6) (N := 6) rfl hin6 3 (by decide) (by decide +kernel) rfl dX6_proof_11 ?_
    refine lv_iload_n hx hb dX6_proof_14 rfl (lv_at hl 1 rfl) ?_
    refine ur_callVi C h (k := 235) (As := [.int x1]) (rest := []) (k_X2_wordsOfProof l E hI M x1 n hn hn6 nw hnw hnw6 ht) (cwV 1 hts gX6_proof_X2_wordsOfProof rfl rfl rfl (by decide +kernel) ⟨Nat.le_of_ble_eq_true rfl, Nat.le_of_ble_eq_true rfl⟩) (by decide) (uc_235 E _) (T := TX2) (N := 5) rfl rfl hl.1 rfl (Nat.le_of_ble_eq_true rfl) dX6_proof_15 (fun r_4 M_5 H locs hw_5 h => ?_)
    obtain ⟨rr, eM_5, hrr, hfew⟩ := hw_5
    refine lv_goto (tgt := 22) hx hb dX6_proof_18 (by decide) ?_
    exact ur_iret C h hr hlocks (by rw [if_pos c_3]; exact ⟨rr, eM_5, hrr, hfew⟩) dX6_proof_22
set_option maxHeartbeats 1000000 in
set_option maxRecDepth 100000 in
theorem k_X6_heardWrong (l : Launch) (E : uE) (hI : uI E) (M : uM) (x1 : Int32) (b : Nat) (hbk : M.1 11 0 = nI b) (hb12 : b ≤ 12) (hwho : ∀ e, e < b → tn (M.1 12 e) < 6 ∧ M.1 12 e = nI (tn (M.1 12 e))) : Met l yX6_heardWrong wsX6_heardWrong ({ frames := 2, cells := 0, slots := 0, locals := 48 }) (va_Pc [.ref (E.2.1 0), .int x1] (uB E M)) (va_Qi (fun r u => M = u ∧ r = if 0 ≤ x1.toInt ∧ x1.toInt ≤ 1 then (if x1 = 0 then xCnt (xHWf M) b else (xUn (xHWf M) (M.1 12) (xHWl M) b).1) else -1) (uP E) (uA E)) 0 0 (uA E) := by
  have hin6 : ∀ w ∈ wsX60, w ∈ wsX6_heardWrong := by decide +kernel
  refine u_start (cc := cX6_heardWrong) (maxL := 2) (ret := (some .int)) hI (by decide) rfl (Nat.le_of_ble_eq_true rfl) ?_
  intro p_ e_ s_ m_ bl_ me_ c_ C hr hlocks h ls hl
  have hx := C.1.1
  have hb := C.1.2.1
  have hown : s_.vm.findClass RX6 = some m_.cls := C.1.2.2.2.1
  have hts := C.1.2.2.2.2
  have hl : lv_has ls 2 [(0, .ref (E.2.1 0)), (1, .int x1)] := hl
  refine lv_iload_n hx hb dX6_heardWrong_0 rfl (lv_at hl 1 rfl) ?_
  refine lv_iconst (v := 0) hx hb dX6_heardWrong_1 (by decide) ?_
  refine lv_iconst (v := 1) hx hb dX6_heardWrong_2 (by decide) ?_
  refine ur_callSi C h (As := [.int x1, .int 0, .int 1]) (rest := []) (k_X6_isIn l E hI M x1 0 1) (va_cwS 3 hts gX6_heardWrong_X6_isIn rfl rfl rfl (by decide +kernel) ⟨Nat.le_of_ble_eq_true rfl, Nat.le_of_ble_eq_true rfl⟩) rfl hl.1 rfl (Nat.le_of_ble_eq_true rfl) dX6_heardWrong_3 (fun r_1 M_2 H locs hw_2 h => ?_)
  obtain ⟨hu, er_1⟩ := hw_2
  subst hu
  have er_1 : r_1 = if 0 ≤ x1.toInt ∧ x1.toInt ≤ 1 then 1 else 0 := u_in32 (x := x1.toInt) rfl rfl rfl er_1
  refine lv_if_ne (tgt := 11) hx hb dX6_heardWrong_6 (by decide) (fun c_3 => ?_) (fun c_3 => ?_)
  · skip
    have c_3 : 0 ≤ x1.toInt ∧ x1.toInt ≤ 1 := uz_t er_1 c_3
    refine lv_iload_n hx hb dX6_heardWrong_11 rfl (lv_at hl 1 rfl) ?_
    refine lv_if_ne (tgt := 25) hx hb dX6_heardWrong_12 (by decide) (fun c_4 => ?_) (fun c_4 => ?_)
    · skip
      refine lv_aload_n hx hb dX6_heardWrong_25 rfl (lv_at hl 0 rfl) ?_
      refine ur_get C h 0 (by decide) (uc_0 E _) (Cn := RX6) (T := TX6) (N := 6) rfl hin6 3 (by decide) (by decide +kernel) rfl dX6_heardWrong_26 ?_
      refine ur_callVi C h (k := 235) (As := []) (rest := []) (k_X2_unluckiestHeardWrong l E hI M b hbk hb12 hwho) (cwV 0 hts gX6_heardWrong_X2_unluckiestHeardWrong rfl rfl rfl (by decide +kernel) ⟨Nat.le_of_ble_eq_true rfl, Nat.le_of_ble_eq_true rfl⟩) (by decide) (uc_235 E _) (T := TX2) (N := 5) rfl rfl hl.1 rfl (Nat.le_of_ble_eq_true rfl) dX6_heardWrong_29 (fun r_5 M_6 H locs hw_6 h => ?_)
      obtain ⟨hu, er_5⟩ := hw_6
      subst hu
      refine ur_eq (y := (xUn (xHWf M) (M.1 12) (xHWl M) b).1) er_5 ?_
      exact ur_iret C h hr hlocks (⟨rfl, by rw [if_pos c_3, if_neg c_4]⟩) dX6_heardWrong_32
    · skip
      refine lv_aload_n hx hb dX6_heardWrong_15 rfl (lv_at hl 0 rfl) ?_
      refine ur_get C h 0 (by decide) (uc_0 E _) (Cn := RX6) (T := TX6) (N := 6) rfl hin6 3 (by decide) (by decide +kernel) rfl dX6_heardWrong_16 ?_
      refine ur_callVi C h (k := 235) (As := []) (rest := []) (k_X2_howManyHeardWrong l E hI M b hbk hb12 hwho) (cwV 0 hts gX6_heardWrong_X2_howManyHeardWrong rfl rfl rfl (by decide +kernel) ⟨Nat.le_of_ble_eq_true rfl, Nat.le_of_ble_eq_true rfl⟩) (by decide) (uc_235 E _) (T := TX2) (N := 5) rfl rfl hl.1 rfl (Nat.le_of_ble_eq_true rfl) dX6_heardWrong_19 (fun r_7 M_8 H locs hw_8 h => ?_)
      obtain ⟨hu, er_7⟩ := hw_8
      subst hu
      refine ur_eq (y := xCnt (xHWf M) b) er_7 ?_
      refine lv_goto (tgt := 32) hx hb dX6_heardWrong_22 (by decide) ?_
      exact ur_iret C h hr hlocks (⟨rfl, by rw [if_pos c_3, if_pos c_4]⟩) dX6_heardWrong_32
  · skip
    have c_3 : ¬ (0 ≤ x1.toInt ∧ x1.toInt ≤ 1) := uz_f er_1 c_3
    refine lv_iconst (v := (-1)) hx hb dX6_heardWrong_9 (by decide) ?_
    exact ur_iret C h hr hlocks (⟨rfl, by rw [if_neg c_3]⟩) dX6_heardWrong_10
set_option maxHeartbeats 1000000 in
set_option maxRecDepth 100000 in
theorem k_X6_image (l : Launch) (E : uE) (hI : uI E) (M : uM) (k : Nat) (hk : M.1 1 10 = nI k) (hk8 : k ≤ 8) (hP6 : ∀ i, i < 8 → uMom (M.2.2 6 i)) (hP84 : ∀ i, i < 8 → uMom (M.2.2 84 i)) : Met l yX6_image wsX6_image ({ frames := 4, cells := 0, slots := 0, locals := 90 }) (va_Pc [.ref (E.2.1 0)] (uB E M)) (va_Qi (fun r u => u = uSet (xFordCp M 79 1 k) 0 2 1 ∧ r = 1) (uP E) (uA E)) 0 0 (uA E) := by
  have hin6 : ∀ w ∈ wsX60, w ∈ wsX6_image := by decide +kernel
  refine u_start (cc := cX6_image) (maxL := 1) (ret := (some .int)) hI (by decide) rfl (Nat.le_of_ble_eq_true rfl) ?_
  intro p_ e_ s_ m_ bl_ me_ c_ C hr hlocks h ls hl
  have hx := C.1.1
  have hb := C.1.2.1
  have hown : s_.vm.findClass RX6 = some m_.cls := C.1.2.2.2.1
  have hts := C.1.2.2.2.2
  have hl : lv_has ls 1 [(0, .ref (E.2.1 0))] := hl
  refine lv_aload_n hx hb dX6_image_0 rfl (lv_at hl 0 rfl) ?_
  refine ur_get C h 0 (by decide) (uc_0 E _) (Cn := RX6) (T := TX6) (N := 6) rfl hin6 1 (by decide) (by decide +kernel) rfl dX6_image_1 ?_
  refine lv_aload_n hx hb dX6_image_4 rfl (lv_at hl 0 rfl) ?_
  refine ur_get C h 0 (by decide) (uc_0 E _) (Cn := RX6) (T := TX6) (N := 6) rfl hin6 0 (by decide) (by decide +kernel) rfl dX6_image_5 ?_
  refine ur_callVv C h (k := 79) (As := [.ref (E.2.1 1)]) (rest := []) (k_X1_becomeLike_79_1 l E hI M k (hk) (by omega) hP84 hP6) (cwV 1 hts gX6_image_X1_becomeLike rfl rfl rfl (by decide +kernel) ⟨Nat.le_of_ble_eq_true rfl, Nat.le_of_ble_eq_true rfl⟩) (by decide) (uc_79 E _) (T := TX1) (N := 11) rfl rfl hl.1 rfl (Nat.le_of_ble_eq_true rfl) dX6_image_8 (fun M_2 H locs hw_2 h => ?_)
  have eM_2 := hw_2
  refine lv_aload_n hx hb dX6_image_11 rfl (lv_at hl 0 rfl) ?_
  refine lv_iconst (v := 1) hx hb dX6_image_12 (by decide) ?_
  refine ur_puti C h 0 (by decide) (uc_0 E _) (Cn := RX6) (T := TX6) (N := 6) rfl hin6 tyX6 tyX6_ok nmX6 2 (by decide) (by decide +kernel) rfl (by rfl) rfl (Nat.le_of_ble_eq_true rfl) (us_0_2 E _ _) dX6_image_13 (fun M_3 H locs eM_3 h => ?_)
  refine lv_iconst (v := 1) hx hb dX6_image_16 (by decide) ?_
  exact ur_iret C h hr hlocks (by subst eM_2; subst eM_3; exact ⟨rfl, rfl⟩) dX6_image_17
set_option maxHeartbeats 1000000 in
set_option maxRecDepth 100000 in
theorem k_X6_restore (l : Launch) (E : uE) (hI : uI E) (M : uM) (k : Nat) (hk : M.1 79 10 = nI k) (hk8 : k ≤ 8) (hP6 : ∀ i, i < 8 → uMom (M.2.2 6 i)) (hP84 : ∀ i, i < 8 → uMom (M.2.2 84 i)) : Met l yX6_restore wsX6_restore ({ frames := 4, cells := 0, slots := 0, locals := 90 }) (va_Pc [.ref (E.2.1 0)] (uB E M)) (va_Qi (fun r u => if M.1 0 2 = 0 then r = -4 ∧ M = u else u = xFordCp M 1 79 k ∧ r = 1) (uP E) (uA E)) 0 0 (uA E) := by
  have hin6 : ∀ w ∈ wsX60, w ∈ wsX6_restore := by decide +kernel
  refine u_start (cc := cX6_restore) (maxL := 1) (ret := (some .int)) hI (by decide) rfl (Nat.le_of_ble_eq_true rfl) ?_
  intro p_ e_ s_ m_ bl_ me_ c_ C hr hlocks h ls hl
  have hx := C.1.1
  have hb := C.1.2.1
  have hown : s_.vm.findClass RX6 = some m_.cls := C.1.2.2.2.1
  have hts := C.1.2.2.2.2
  have hl : lv_has ls 1 [(0, .ref (E.2.1 0))] := hl
  refine lv_aload_n hx hb dX6_restore_0 rfl (lv_at hl 0 rfl) ?_
  refine ur_get C h 0 (by decide) (uc_0 E _) (Cn := RX6) (T := TX6) (N := 6) rfl hin6 2 (by decide) (by decide +kernel) rfl dX6_restore_1 ?_
  refine lv_if_ne (tgt := 10) hx hb dX6_restore_4 (by decide) (fun c_1 => ?_) (fun c_1 => ?_)
  · skip
    refine lv_aload_n hx hb dX6_restore_10 rfl (lv_at hl 0 rfl) ?_
    refine ur_get C h 0 (by decide) (uc_0 E _) (Cn := RX6) (T := TX6) (N := 6) rfl hin6 0 (by decide) (by decide +kernel) rfl dX6_restore_11 ?_
    refine lv_aload_n hx hb dX6_restore_14 rfl (lv_at hl 0 rfl) ?_
    refine ur_get C h 0 (by decide) (uc_0 E _) (Cn := RX6) (T := TX6) (N := 6) rfl hin6 1 (by decide) (by decide +kernel) rfl dX6_restore_15 ?_
    refine ur_callVv C h (k := 1) (As := [.ref (E.2.1 79)]) (rest := []) (k_X1_becomeLike_1_79 l E hI M k (hk) (by omega) hP6 hP84) (cwV 1 hts gX6_restore_X1_becomeLike rfl rfl rfl (by decide +kernel) ⟨Nat.le_of_ble_eq_true rfl, Nat.le_of_ble_eq_true rfl⟩) (by decide) (uc_1 E _) (T := TX1) (N := 11) rfl rfl hl.1 rfl (Nat.le_of_ble_eq_true rfl) dX6_restore_18 (fun M_3 H locs hw_3 h => ?_)
    have eM_3 := hw_3
    refine lv_iconst (v := 1) hx hb dX6_restore_21 (by decide) ?_
    exact ur_iret C h hr hlocks (by rw [if_neg c_1]; exact ⟨eM_3, rfl⟩) dX6_restore_22
  · skip
    refine lv_bipush (v := (-4)) hx hb dX6_restore_7 (by decide) ?_
    exact ur_iret C h hr hlocks (by rw [if_pos c_1]; exact ⟨rfl, rfl⟩) dX6_restore_9
set_option maxHeartbeats 1000000 in
set_option maxRecDepth 100000 in
theorem k_X6_sheet (l : Launch) (E : uE) (hI : uI E) (M : uM) (x1 x2 x3 : Int32) : Met l yX6_sheet wsX6_sheet ({ frames := 2, cells := 0, slots := 0, locals := 42 }) (va_Pc [.ref (E.2.1 0), .int x1, .int x2, .int x3] (uB E M)) (va_Qi (fun r u => if (0 ≤ x1.toInt ∧ x1.toInt ≤ 3) ∧ (0 ≤ x2.toInt ∧ x2.toInt ≤ 3) ∧ x3 ≤ 24 then (if 0 ≤ x3 then u = xBegin M (243 + 2 * (tn x1)) x2 x3 ∧ r = x3 else r = -14 ∧ M = u) else r = -1 ∧ M = u) (uP E) (uA E)) 0 0 (uA E) := by
  have hin6 : ∀ w ∈ wsX60, w ∈ wsX6_sheet := by decide +kernel
  refine u_start (cc := cX6_sheet) (maxL := 4) (ret := (some .int)) hI (by decide) rfl (Nat.le_of_ble_eq_true rfl) ?_
  intro p_ e_ s_ m_ bl_ me_ c_ C hr hlocks h ls hl
  have hx := C.1.1
  have hb := C.1.2.1
  have hown : s_.vm.findClass RX6 = some m_.cls := C.1.2.2.2.1
  have hts := C.1.2.2.2.2
  have hl : lv_has ls 4 [(0, .ref (E.2.1 0)), (1, .int x1), (2, .int x2), (3, .int x3)] := hl
  refine lv_iload_n hx hb dX6_sheet_0 rfl (lv_at hl 1 rfl) ?_
  refine ur_callSi C h (As := [.int x1]) (rest := []) (k_X6_isSheet l E hI M x1) (va_cwS 1 hts gX6_sheet_X6_isSheet rfl rfl rfl (by decide +kernel) ⟨Nat.le_of_ble_eq_true rfl, Nat.le_of_ble_eq_true rfl⟩) rfl hl.1 rfl (Nat.le_of_ble_eq_true rfl) dX6_sheet_1 (fun r_1 M_2 H locs hw_2 h => ?_)
  obtain ⟨hu, er_1⟩ := hw_2
  subst hu
  refine lv_if_eq (tgt := 22) hx hb dX6_sheet_4 (by decide) (fun c_3 => ?_) (fun c_3 => ?_)
  · skip
    have c_3 : ¬ (0 ≤ x1.toInt ∧ x1.toInt ≤ 3) := uz_f er_1 c_3
    refine lv_iconst (v := (-1)) hx hb dX6_sheet_22 (by decide) ?_
    exact ur_iret C h hr hlocks (by rw [if_neg (fun z => by first | exact absurd z (by assumption) | exact absurd z.1 (by assumption) | exact absurd z.2 (by assumption) | exact absurd z.2.1 (by assumption) | exact absurd z.2.2 (by assumption) | exact absurd z.2.2.1 (by assumption) | exact absurd z.2.2.2 (by assumption) | exact absurd z.2.2.2.1 (by assumption) | exact absurd z.2.2.2.2 (by assumption))]; exact ⟨rfl, rfl⟩) dX6_sheet_23
  · skip
    have c_3 : 0 ≤ x1.toInt ∧ x1.toInt ≤ 3 := uz_t er_1 c_3
    refine lv_iload_n hx hb dX6_sheet_7 rfl (lv_at hl 2 rfl) ?_
    refine lv_iconst (v := 0) hx hb dX6_sheet_8 (by decide) ?_
    refine lv_iconst (v := 3) hx hb dX6_sheet_9 (by decide) ?_
    refine ur_callSi C h (As := [.int x2, .int 0, .int 3]) (rest := []) (k_X6_isIn l E hI M x2 0 3) (va_cwS 3 hts gX6_sheet_X6_isIn rfl rfl rfl (by decide +kernel) ⟨Nat.le_of_ble_eq_true rfl, Nat.le_of_ble_eq_true rfl⟩) rfl hl.1 rfl (Nat.le_of_ble_eq_true rfl) dX6_sheet_10 (fun r_4 M_5 H locs hw_5 h => ?_)
    obtain ⟨hu, er_4⟩ := hw_5
    subst hu
    have er_4 : r_4 = if 0 ≤ x2.toInt ∧ x2.toInt ≤ 3 then 1 else 0 := u_in32 (x := x2.toInt) rfl rfl rfl er_4
    refine lv_if_eq (tgt := 22) hx hb dX6_sheet_13 (by decide) (fun c_6 => ?_) (fun c_6 => ?_)
    · skip
      have c_6 : ¬ (0 ≤ x2.toInt ∧ x2.toInt ≤ 3) := uz_f er_4 c_6
      refine lv_iconst (v := (-1)) hx hb dX6_sheet_22 (by decide) ?_
      exact ur_iret C h hr hlocks (by rw [if_neg (fun z => by first | exact absurd z (by assumption) | exact absurd z.1 (by assumption) | exact absurd z.2 (by assumption) | exact absurd z.2.1 (by assumption) | exact absurd z.2.2 (by assumption) | exact absurd z.2.2.1 (by assumption) | exact absurd z.2.2.2 (by assumption) | exact absurd z.2.2.2.1 (by assumption) | exact absurd z.2.2.2.2 (by assumption))]; exact ⟨rfl, rfl⟩) dX6_sheet_23
    · skip
      have c_6 : 0 ≤ x2.toInt ∧ x2.toInt ≤ 3 := uz_t er_4 c_6
      refine lv_iload_n hx hb dX6_sheet_16 rfl (lv_at hl 3 rfl) ?_
      refine lv_bipush (v := 24) hx hb dX6_sheet_17 (by decide) ?_
      refine lv_icmp_le (tgt := 24) hx hb dX6_sheet_19 (by decide) (fun c_7 => ?_) (fun c_7 => ?_)
      · skip
        refine lv_iload_n hx hb dX6_sheet_24 rfl (lv_at hl 3 rfl) ?_
        refine lv_if_ge (tgt := 31) hx hb dX6_sheet_25 (by decide) (fun c_8 => ?_) (fun c_8 => ?_)
        · skip
          obtain ⟨hnx1, enx1⟩ := u_tn (x := x1) (n := 4) ⟨by omega, by omega⟩ (by omega)
          refine lv_aload_n hx hb dX6_sheet_31 rfl (lv_at hl 0 rfl) ?_
          refine ur_get C h 0 (by decide) (uc_0 E _) (Cn := RX6) (T := TX6) (N := 6) rfl hin6 5 (by decide) (by decide +kernel) rfl dX6_sheet_32 ?_
          refine lv_iload_n hx hb dX6_sheet_35 rfl (lv_at hl 1 rfl) ?_
          refine ur_eq (y := nI (tn x1)) enx1 ?_
          refine ur_aald C h 242 4 (by decide) (uc_242 E _) rfl (tn x1) (by omega) (by decide) dX6_sheet_36 ?_
          refine lv_iload_n hx hb dX6_sheet_37 rfl (lv_at hl 2 rfl) ?_
          refine lv_iload_n hx hb dX6_sheet_38 rfl (lv_at hl 3 rfl) ?_
          refine ur_callVv C h (k := (243 + 2 * (tn x1))) (As := [.int x2, .int x3]) (rest := []) (k_X4_begin l E hI M (243 + 2 * (tn x1)) (⟨tn x1, by omega, rfl⟩ : uSh (243 + 2 * (tn x1))) x2 x3) (cwV 2 hts gX6_sheet_X4_begin rfl rfl rfl (by decide +kernel) ⟨Nat.le_of_ble_eq_true rfl, Nat.le_of_ble_eq_true rfl⟩) (by have := uSh_lt (⟨tn x1, by omega, rfl⟩ : uSh (243 + 2 * (tn x1))); omega) (uc_s0 (⟨tn x1, by omega, rfl⟩ : uSh (243 + 2 * (tn x1))) E _) (T := TX4) (N := 4) rfl rfl hl.1 rfl (Nat.le_of_ble_eq_true rfl) dX6_sheet_39 (fun M_10 H locs hw_10 h => ?_)
          have eM_10 := hw_10
          refine lv_iload_n hx hb dX6_sheet_42 rfl (lv_at hl 3 rfl) ?_
          exact ur_iret C h hr hlocks (by rw [if_pos ⟨c_3, c_6, c_7⟩, if_pos c_8]; exact ⟨eM_10, rfl⟩) dX6_sheet_43
        · skip
          refine lv_bipush (v := (-14)) hx hb dX6_sheet_28 (by decide) ?_
          exact ur_iret C h hr hlocks (by rw [if_pos ⟨c_3, c_6, c_7⟩, if_neg c_8]; exact ⟨rfl, rfl⟩) dX6_sheet_30
      · skip
        refine lv_iconst (v := (-1)) hx hb dX6_sheet_22 (by decide) ?_
        exact ur_iret C h hr hlocks (by rw [if_neg (fun z => by first | exact absurd z (by assumption) | exact absurd z.1 (by assumption) | exact absurd z.2 (by assumption) | exact absurd z.2.1 (by assumption) | exact absurd z.2.2 (by assumption) | exact absurd z.2.2.1 (by assumption) | exact absurd z.2.2.2 (by assumption) | exact absurd z.2.2.2.1 (by assumption) | exact absurd z.2.2.2.2 (by assumption))]; exact ⟨rfl, rfl⟩) dX6_sheet_23
set_option maxHeartbeats 1000000 in
set_option maxRecDepth 100000 in
theorem k_X6_drop (l : Launch) (E : uE) (hI : uI E) (M : uM) (x1 : Int32) : Met l yX6_drop wsX6_drop ({ frames := 2, cells := 0, slots := 0, locals := 42 }) (va_Pc [.ref (E.2.1 0), .int x1] (uB E M)) (va_Qi (fun r u => if 0 ≤ x1.toInt ∧ x1.toInt ≤ 3 then (if M.1 (243 + 2 * (tn x1)) 0 = 0 then r = -11 ∧ M = u else u = uSet M (243 + 2 * (tn x1)) 0 0 ∧ r = u.1 (243 + 2 * (tn x1)) 2) else r = -1 ∧ M = u) (uP E) (uA E)) 0 0 (uA E) := by
  have hin4 : ∀ w ∈ wsX40, w ∈ wsX6_drop := by decide +kernel
  have hin6 : ∀ w ∈ wsX60, w ∈ wsX6_drop := by decide +kernel
  refine u_start (cc := cX6_drop) (maxL := 3) (ret := (some .int)) hI (by decide) rfl (Nat.le_of_ble_eq_true rfl) ?_
  intro p_ e_ s_ m_ bl_ me_ c_ C hr hlocks h ls hl
  have hx := C.1.1
  have hb := C.1.2.1
  have hown : s_.vm.findClass RX6 = some m_.cls := C.1.2.2.2.1
  have hts := C.1.2.2.2.2
  have hl : lv_has ls 3 [(0, .ref (E.2.1 0)), (1, .int x1)] := hl
  refine lv_iload_n hx hb dX6_drop_0 rfl (lv_at hl 1 rfl) ?_
  refine ur_callSi C h (As := [.int x1]) (rest := []) (k_X6_isSheet l E hI M x1) (va_cwS 1 hts gX6_drop_X6_isSheet rfl rfl rfl (by decide +kernel) ⟨Nat.le_of_ble_eq_true rfl, Nat.le_of_ble_eq_true rfl⟩) rfl hl.1 rfl (Nat.le_of_ble_eq_true rfl) dX6_drop_1 (fun r_1 M_2 H locs hw_2 h => ?_)
  obtain ⟨hu, er_1⟩ := hw_2
  subst hu
  refine lv_if_ne (tgt := 9) hx hb dX6_drop_4 (by decide) (fun c_3 => ?_) (fun c_3 => ?_)
  · skip
    have c_3 : 0 ≤ x1.toInt ∧ x1.toInt ≤ 3 := uz_t er_1 c_3
    obtain ⟨hnx1, enx1⟩ := u_tn (x := x1) (n := 4) ⟨by omega, by omega⟩ (by omega)
    refine lv_aload_n hx hb dX6_drop_9 rfl (lv_at hl 0 rfl) ?_
    refine ur_get C h 0 (by decide) (uc_0 E _) (Cn := RX6) (T := TX6) (N := 6) rfl hin6 5 (by decide) (by decide +kernel) rfl dX6_drop_10 ?_
    refine lv_iload_n hx hb dX6_drop_13 rfl (lv_at hl 1 rfl) ?_
    refine ur_eq (y := nI (tn x1)) enx1 ?_
    refine ur_aald C h 242 4 (by decide) (uc_242 E _) rfl (tn x1) (by omega) (by decide) dX6_drop_14 ?_
    refine lv_astore_n (lv' := [(2, .ref (E.2.1 (243 + 2 * (tn x1)))), (0, .ref (E.2.1 0)), (1, .int x1)]) hx hb dX6_drop_15 rfl hl (by decide) rfl (fun ls hl => ?_)
    refine lv_aload_n hx hb dX6_drop_16 rfl (lv_at hl 0 rfl) ?_
    refine ur_get C h (243 + 2 * (tn x1)) (by have := uSh_lt (⟨tn x1, by omega, rfl⟩ : uSh (243 + 2 * (tn x1))); omega) (uc_s0 (⟨tn x1, by omega, rfl⟩ : uSh (243 + 2 * (tn x1))) E _) (Cn := RX4) (T := TX4) (N := 4) rfl hin4 0 (by decide) (by decide +kernel) rfl dX6_drop_17 ?_
    refine lv_if_ne (tgt := 26) hx hb dX6_drop_20 (by decide) (fun c_4 => ?_) (fun c_4 => ?_)
    · skip
      refine lv_aload_n hx hb dX6_drop_26 rfl (lv_at hl 0 rfl) ?_
      refine lv_iconst (v := 0) hx hb dX6_drop_27 (by decide) ?_
      refine ur_puti C h (243 + 2 * (tn x1)) (by have := uSh_lt (⟨tn x1, by omega, rfl⟩ : uSh (243 + 2 * (tn x1))); omega) (uc_s0 (⟨tn x1, by omega, rfl⟩ : uSh (243 + 2 * (tn x1))) E _) (Cn := RX4) (T := TX4) (N := 4) rfl hin4 tyX4 tyX4_ok nmX4 0 (by decide) (by decide +kernel) rfl (by rfl) rfl (Nat.le_of_ble_eq_true rfl) (us_s0_0 (⟨tn x1, by omega, rfl⟩ : uSh (243 + 2 * (tn x1))) E _ _) dX6_drop_28 (fun M_5 H locs eM_5 h => ?_)
      refine lv_aload_n hx hb dX6_drop_31 rfl (lv_at hl 0 rfl) ?_
      refine ur_get C h (243 + 2 * (tn x1)) (by have := uSh_lt (⟨tn x1, by omega, rfl⟩ : uSh (243 + 2 * (tn x1))); omega) (uc_s0 (⟨tn x1, by omega, rfl⟩ : uSh (243 + 2 * (tn x1))) E _) (Cn := RX4) (T := TX4) (N := 4) rfl hin4 2 (by decide) (by decide +kernel) rfl dX6_drop_32 ?_
      exact ur_iret C h hr hlocks (by rw [if_pos c_3, if_neg c_4]; exact ⟨eM_5, rfl⟩) dX6_drop_35
    · skip
      refine lv_bipush (v := (-11)) hx hb dX6_drop_23 (by decide) ?_
      exact ur_iret C h hr hlocks (by rw [if_pos c_3, if_pos c_4]; exact ⟨rfl, rfl⟩) dX6_drop_25
  · skip
    have c_3 : ¬ (0 ≤ x1.toInt ∧ x1.toInt ≤ 3) := uz_f er_1 c_3
    refine lv_iconst (v := (-1)) hx hb dX6_drop_7 (by decide) ?_
    exact ur_iret C h hr hlocks (by rw [if_neg c_3]; exact ⟨rfl, rfl⟩) dX6_drop_8
set_option maxHeartbeats 1000000 in
set_option maxRecDepth 100000 in
theorem k_X6_item (l : Launch) (E : uE) (hI : uI E) (M : uM) (x1 x2 x3 : Int32) (v : Int64) (hsz : ∀ i, i < 4 → 0 ≤ (M.1 (243 + 2 * i) 2).toInt ∧ (M.1 (243 + 2 * i) 2).toInt ≤ 24) : Met l yX6_item wsX6_item ({ frames := 2, cells := 0, slots := 0, locals := 45 }) (va_Pc [.ref (E.2.1 0), .int x1, .int x2, .int x3, .long v] (uB E M)) (va_Qi (fun r u => if (0 ≤ x1.toInt ∧ x1.toInt ≤ 3) ∧ (0 ≤ x2.toInt ∧ x2.toInt ≤ 3) then (if xWhyS M (243 + 2 * (tn x1)) x2 x3 1 = 0 then u = uSetL M ((243 + 2 * (tn x1)) + 1) (tn x3) (uCut (M.1 (243 + 2 * (tn x1)) 1) v) ∧ r = 1 else M = u ∧ r = xWhyS M (243 + 2 * (tn x1)) x2 x3 1) else r = -1 ∧ M = u) (uP E) (uA E)) 0 0 (uA E) := by
  have hin6 : ∀ w ∈ wsX60, w ∈ wsX6_item := by decide +kernel
  refine u_start (cc := cX6_item) (maxL := 7) (ret := (some .int)) hI (by decide) rfl (Nat.le_of_ble_eq_true rfl) ?_
  intro p_ e_ s_ m_ bl_ me_ c_ C hr hlocks h ls hl
  have hx := C.1.1
  have hb := C.1.2.1
  have hown : s_.vm.findClass RX6 = some m_.cls := C.1.2.2.2.1
  have hts := C.1.2.2.2.2
  have hl : lv_has ls 7 [(0, .ref (E.2.1 0)), (1, .int x1), (2, .int x2), (3, .int x3), (4, .long v)] := hl
  refine lv_iload_n hx hb dX6_item_0 rfl (lv_at hl 1 rfl) ?_
  refine ur_callSi C h (As := [.int x1]) (rest := []) (k_X6_isSheet l E hI M x1) (va_cwS 1 hts gX6_item_X6_isSheet rfl rfl rfl (by decide +kernel) ⟨Nat.le_of_ble_eq_true rfl, Nat.le_of_ble_eq_true rfl⟩) rfl hl.1 rfl (Nat.le_of_ble_eq_true rfl) dX6_item_1 (fun r_1 M_2 H locs hw_2 h => ?_)
  obtain ⟨hu, er_1⟩ := hw_2
  subst hu
  refine lv_if_eq (tgt := 16) hx hb dX6_item_4 (by decide) (fun c_3 => ?_) (fun c_3 => ?_)
  · skip
    have c_3 : ¬ (0 ≤ x1.toInt ∧ x1.toInt ≤ 3) := uz_f er_1 c_3
    refine lv_iconst (v := (-1)) hx hb dX6_item_16 (by decide) ?_
    exact ur_iret C h hr hlocks (by rw [if_neg (fun z => by first | exact absurd z (by assumption) | exact absurd z.1 (by assumption) | exact absurd z.2 (by assumption) | exact absurd z.2.1 (by assumption) | exact absurd z.2.2 (by assumption) | exact absurd z.2.2.1 (by assumption) | exact absurd z.2.2.2 (by assumption) | exact absurd z.2.2.2.1 (by assumption) | exact absurd z.2.2.2.2 (by assumption))]; exact ⟨rfl, rfl⟩) dX6_item_17
  · skip
    have c_3 : 0 ≤ x1.toInt ∧ x1.toInt ≤ 3 := uz_t er_1 c_3
    refine lv_iload_n hx hb dX6_item_7 rfl (lv_at hl 2 rfl) ?_
    refine lv_iconst (v := 0) hx hb dX6_item_8 (by decide) ?_
    refine lv_iconst (v := 3) hx hb dX6_item_9 (by decide) ?_
    refine ur_callSi C h (As := [.int x2, .int 0, .int 3]) (rest := []) (k_X6_isIn l E hI M x2 0 3) (va_cwS 3 hts gX6_item_X6_isIn rfl rfl rfl (by decide +kernel) ⟨Nat.le_of_ble_eq_true rfl, Nat.le_of_ble_eq_true rfl⟩) rfl hl.1 rfl (Nat.le_of_ble_eq_true rfl) dX6_item_10 (fun r_4 M_5 H locs hw_5 h => ?_)
    obtain ⟨hu, er_4⟩ := hw_5
    subst hu
    have er_4 : r_4 = if 0 ≤ x2.toInt ∧ x2.toInt ≤ 3 then 1 else 0 := u_in32 (x := x2.toInt) rfl rfl rfl er_4
    refine lv_if_ne (tgt := 18) hx hb dX6_item_13 (by decide) (fun c_6 => ?_) (fun c_6 => ?_)
    · skip
      have c_6 : 0 ≤ x2.toInt ∧ x2.toInt ≤ 3 := uz_t er_4 c_6
      obtain ⟨hnx1, enx1⟩ := u_tn (x := x1) (n := 4) ⟨by omega, by omega⟩ (by omega)
      refine lv_aload_n hx hb dX6_item_18 rfl (lv_at hl 0 rfl) ?_
      refine ur_get C h 0 (by decide) (uc_0 E _) (Cn := RX6) (T := TX6) (N := 6) rfl hin6 5 (by decide) (by decide +kernel) rfl dX6_item_19 ?_
      refine lv_iload_n hx hb dX6_item_22 rfl (lv_at hl 1 rfl) ?_
      refine ur_eq (y := nI (tn x1)) enx1 ?_
      refine ur_aald C h 242 4 (by decide) (uc_242 E _) rfl (tn x1) (by omega) (by decide) dX6_item_23 ?_
      refine lv_iload_n hx hb dX6_item_24 rfl (lv_at hl 2 rfl) ?_
      refine lv_iload_n hx hb dX6_item_25 rfl (lv_at hl 3 rfl) ?_
      refine lv_iconst (v := 1) hx hb dX6_item_26 (by decide) ?_
      refine ur_callVi C h (k := (243 + 2 * (tn x1))) (As := [.int x2, .int x3, .int 1]) (rest := []) (k_X4_whyNotTaken l E hI M (243 + 2 * (tn x1)) (⟨tn x1, by omega, rfl⟩ : uSh (243 + 2 * (tn x1))) x2 x3 1 (hsz (tn x1) (by omega))) (cwV 3 hts gX6_item_X4_whyNotTaken rfl rfl rfl (by decide +kernel) ⟨Nat.le_of_ble_eq_true rfl, Nat.le_of_ble_eq_true rfl⟩) (by have := uSh_lt (⟨tn x1, by omega, rfl⟩ : uSh (243 + 2 * (tn x1))); omega) (uc_s0 (⟨tn x1, by omega, rfl⟩ : uSh (243 + 2 * (tn x1))) E _) (T := TX4) (N := 4) rfl rfl hl.1 rfl (Nat.le_of_ble_eq_true rfl) dX6_item_27 (fun r_7 M_8 H locs hw_8 h => ?_)
      obtain ⟨hu, er_7⟩ := hw_8
      subst hu
      refine ur_eq (y := xWhyS M (243 + 2 * (tn x1)) x2 x3 1) er_7 ?_
      refine lv_topi (fun v_9 ev_9 => ?_)
      refine lv_istore (lv' := [(6, .int v_9), (0, .ref (E.2.1 0)), (1, .int x1), (2, .int x2), (3, .int x3), (4, .long v)]) hx hb dX6_item_30 hl (by decide) rfl (fun ls hl => ?_)
      refine lv_iload hx hb dX6_item_32 (lv_at hl 0 rfl) ?_
      refine lv_if_eq (tgt := 40) hx hb dX6_item_34 (by decide) (fun c_10 => ?_) (fun c_10 => ?_)
      · skip
        have hwy : xWhyS M (243 + 2 * (tn x1)) x2 x3 1 = 0 := ev_9 ▸ c_10
        obtain ⟨hs0, hs1, hs2, hs3, hs4⟩ := xWhyS_ok hwy
        have hz0 := hsz (tn x1) (by omega)
        have h11 : (1 : Int32).toInt = 1 := rfl
        obtain ⟨hnx3, enx3⟩ := u_tn (x := x3) (n := 25) ⟨hs2, by omega⟩ (by omega)
        have hti := tn_int hs2
        refine lv_aload_n hx hb dX6_item_40 rfl (lv_at hl 1 rfl) ?_
        refine ur_get C h 0 (by decide) (uc_0 E _) (Cn := RX6) (T := TX6) (N := 6) rfl hin6 5 (by decide) (by decide +kernel) rfl dX6_item_41 ?_
        refine lv_iload_n hx hb dX6_item_44 rfl (lv_at hl 2 rfl) ?_
        refine ur_eq (y := nI (tn x1)) enx1 ?_
        refine ur_aald C h 242 4 (by decide) (uc_242 E _) rfl (tn x1) (by omega) (by decide) dX6_item_45 ?_
        refine lv_iload_n hx hb dX6_item_46 rfl (lv_at hl 4 rfl) ?_
        refine ur_eq (y := nI (tn x3)) enx3 ?_
        refine lv_lload hx hb dX6_item_47 (lv_at hl 5 rfl) ?_
        refine ur_callVv C h (k := (243 + 2 * (tn x1))) (As := [.int (nI (tn x3)), .long v]) (rest := []) (k_X4_put l E hI M (243 + 2 * (tn x1)) (⟨tn x1, by omega, rfl⟩ : uSh (243 + 2 * (tn x1))) (tn x3) v (by omega)) (cwV 2 hts gX6_item_X4_put rfl rfl rfl (by decide +kernel) ⟨Nat.le_of_ble_eq_true rfl, Nat.le_of_ble_eq_true rfl⟩) (by have := uSh_lt (⟨tn x1, by omega, rfl⟩ : uSh (243 + 2 * (tn x1))); omega) (uc_s0 (⟨tn x1, by omega, rfl⟩ : uSh (243 + 2 * (tn x1))) E _) (T := TX4) (N := 4) rfl rfl hl.1 rfl (Nat.le_of_ble_eq_true rfl) dX6_item_49 (fun M_12 H locs hw_12 h => ?_)
        have eM_12 := hw_12
        refine lv_iconst (v := 1) hx hb dX6_item_52 (by decide) ?_
        exact ur_iret C h hr hlocks (by rw [if_pos ⟨c_3, c_6⟩, if_pos hwy]; exact ⟨eM_12, rfl⟩) dX6_item_53
      · skip
        refine lv_iload hx hb dX6_item_37 (lv_at hl 0 rfl) ?_
        exact ur_iret C h hr hlocks (by subst ev_9; rw [if_pos ⟨c_3, c_6⟩, if_neg (by assumption)]; exact ⟨rfl, rfl⟩) dX6_item_39
    · skip
      have c_6 : ¬ (0 ≤ x2.toInt ∧ x2.toInt ≤ 3) := uz_f er_4 c_6
      refine lv_iconst (v := (-1)) hx hb dX6_item_16 (by decide) ?_
      exact ur_iret C h hr hlocks (by rw [if_neg (fun z => by first | exact absurd z (by assumption) | exact absurd z.1 (by assumption) | exact absurd z.2 (by assumption) | exact absurd z.2.1 (by assumption) | exact absurd z.2.2 (by assumption) | exact absurd z.2.2.1 (by assumption) | exact absurd z.2.2.2 (by assumption) | exact absurd z.2.2.2.1 (by assumption) | exact absurd z.2.2.2.2 (by assumption))]; exact ⟨rfl, rfl⟩) dX6_item_17
set_option maxHeartbeats 1000000 in
set_option maxRecDepth 100000 in
theorem k_X6_film (l : Launch) (E : uE) (hI : uI E) (M : uM) (x1 x2 x3 x4 x5 x6 : Int32) (n : Nat) (hn : M.1 1 0 = nI n) (hn6 : n ≤ 6) (nw : Nat) (hnw : M.1 1 4 = nI nw) (hnw6 : nw ≤ 6) (ht : ¬ M.1 1 7 = 0) (hsz : ∀ i, i < 4 → 0 ≤ (M.1 (243 + 2 * i) 2).toInt ∧ (M.1 (243 + 2 * i) 2).toInt ≤ 24) : Met l yX6_film wsX6_film ({ frames := 5, cells := 0, slots := 0, locals := 120 }) (va_Pc [.ref (E.2.1 0), .int x1, .int x2, .int x3, .int x4, .int x5, .int x6] (uB E M)) (va_Qi (fun r u => if (0 ≤ x1.toInt ∧ x1.toInt < n) ∧ (0 ≤ x2.toInt ∧ x2.toInt < nw) ∧ (1 ≤ x3.toInt ∧ x3.toInt ≤ 24) ∧ (0 ≤ x4.toInt ∧ x4.toInt ≤ 3) ∧ (0 ≤ x5.toInt ∧ x5.toInt ≤ 3) then (if xWhyS M (243 + 2 * (tn x4)) x5 x6 x3 = 0 then u = xFilm M (tn x1) (tn x2) (243 + 2 * (tn x4)) (tn x6) (tn x3) ∧ r = x3 else M = u ∧ r = xWhyS M (243 + 2 * (tn x4)) x5 x6 x3) else r = -1 ∧ M = u) (uP E) (uA E)) 0 0 (uA E) := by
  have hin1 : ∀ w ∈ wsX10, w ∈ wsX6_film := by decide +kernel
  have hin3 : ∀ w ∈ wsX30, w ∈ wsX6_film := by decide +kernel
  have hin6 : ∀ w ∈ wsX60, w ∈ wsX6_film := by decide +kernel
  refine u_start (cc := cX6_film) (maxL := 10) (ret := (some .int)) hI (by decide) rfl (Nat.le_of_ble_eq_true rfl) ?_
  intro p_ e_ s_ m_ bl_ me_ c_ C hr hlocks h ls hl
  have hx := C.1.1
  have hb := C.1.2.1
  have hown : s_.vm.findClass RX6 = some m_.cls := C.1.2.2.2.1
  have hts := C.1.2.2.2.2
  have hl : lv_has ls 10 [(0, .ref (E.2.1 0)), (1, .int x1), (2, .int x2), (3, .int x3), (4, .int x4), (5, .int x5), (6, .int x6)] := hl
  refine lv_aload_n hx hb dX6_film_0 rfl (lv_at hl 0 rfl) ?_
  refine lv_iload_n hx hb dX6_film_1 rfl (lv_at hl 1 rfl) ?_
  refine ur_callVi C h (k := 0) (As := [.int x1]) (rest := []) (k_X6_isSpeaker l E hI M x1 n hn hn6) (cwV 1 hts gX6_film_X6_isSpeaker rfl rfl rfl (by decide +kernel) ⟨Nat.le_of_ble_eq_true rfl, Nat.le_of_ble_eq_true rfl⟩) (by decide) (uc_0 E _) (T := TX6) (N := 6) rfl rfl hl.1 rfl (Nat.le_of_ble_eq_true rfl) dX6_film_2 (fun r_1 M_2 H locs hw_2 h => ?_)
  obtain ⟨hu, er_1⟩ := hw_2
  subst hu
  refine lv_if_eq (tgt := 26) hx hb dX6_film_5 (by decide) (fun c_3 => ?_) (fun c_3 => ?_)
  · skip
    have c_3 : ¬ (0 ≤ x1.toInt ∧ x1.toInt < n) := uz_f er_1 c_3
    refine lv_iconst (v := (-1)) hx hb dX6_film_26 (by decide) ?_
    exact ur_iret C h hr hlocks (by rw [if_neg (fun z => by first | exact absurd z (by assumption) | exact absurd z.1 (by assumption) | exact absurd z.2 (by assumption) | exact absurd z.2.1 (by assumption) | exact absurd z.2.2 (by assumption) | exact absurd z.2.2.1 (by assumption) | exact absurd z.2.2.2 (by assumption) | exact absurd z.2.2.2.1 (by assumption) | exact absurd z.2.2.2.2 (by assumption))]; exact ⟨rfl, rfl⟩) dX6_film_27
  · skip
    have c_3 : 0 ≤ x1.toInt ∧ x1.toInt < n := uz_t er_1 c_3
    refine lv_aload_n hx hb dX6_film_8 rfl (lv_at hl 0 rfl) ?_
    refine lv_iload_n hx hb dX6_film_9 rfl (lv_at hl 2 rfl) ?_
    refine ur_callVi C h (k := 0) (As := [.int x2]) (rest := []) (k_X6_isWord l E hI M x2 nw hnw hnw6) (cwV 1 hts gX6_film_X6_isWord rfl rfl rfl (by decide +kernel) ⟨Nat.le_of_ble_eq_true rfl, Nat.le_of_ble_eq_true rfl⟩) (by decide) (uc_0 E _) (T := TX6) (N := 6) rfl rfl hl.1 rfl (Nat.le_of_ble_eq_true rfl) dX6_film_10 (fun r_4 M_5 H locs hw_5 h => ?_)
    obtain ⟨hu, er_4⟩ := hw_5
    subst hu
    refine lv_if_eq (tgt := 26) hx hb dX6_film_13 (by decide) (fun c_6 => ?_) (fun c_6 => ?_)
    · skip
      have c_6 : ¬ (0 ≤ x2.toInt ∧ x2.toInt < nw) := uz_f er_4 c_6
      refine lv_iconst (v := (-1)) hx hb dX6_film_26 (by decide) ?_
      exact ur_iret C h hr hlocks (by rw [if_neg (fun z => by first | exact absurd z (by assumption) | exact absurd z.1 (by assumption) | exact absurd z.2 (by assumption) | exact absurd z.2.1 (by assumption) | exact absurd z.2.2 (by assumption) | exact absurd z.2.2.1 (by assumption) | exact absurd z.2.2.2 (by assumption) | exact absurd z.2.2.2.1 (by assumption) | exact absurd z.2.2.2.2 (by assumption))]; exact ⟨rfl, rfl⟩) dX6_film_27
    · skip
      have c_6 : 0 ≤ x2.toInt ∧ x2.toInt < nw := uz_t er_4 c_6
      refine lv_iload_n hx hb dX6_film_16 rfl (lv_at hl 3 rfl) ?_
      refine lv_iconst (v := 1) hx hb dX6_film_17 (by decide) ?_
      refine lv_bipush (v := 24) hx hb dX6_film_18 (by decide) ?_
      refine ur_callSi C h (As := [.int x3, .int 1, .int 24]) (rest := []) (k_X6_isIn l E hI M x3 1 24) (va_cwS 3 hts gX6_film_X6_isIn rfl rfl rfl (by decide +kernel) ⟨Nat.le_of_ble_eq_true rfl, Nat.le_of_ble_eq_true rfl⟩) rfl hl.1 rfl (Nat.le_of_ble_eq_true rfl) dX6_film_20 (fun r_7 M_8 H locs hw_8 h => ?_)
      obtain ⟨hu, er_7⟩ := hw_8
      subst hu
      have er_7 : r_7 = if 1 ≤ x3.toInt ∧ x3.toInt ≤ 24 then 1 else 0 := u_in32 (x := x3.toInt) rfl rfl rfl er_7
      refine lv_if_ne (tgt := 28) hx hb dX6_film_23 (by decide) (fun c_9 => ?_) (fun c_9 => ?_)
      · skip
        have c_9 : 1 ≤ x3.toInt ∧ x3.toInt ≤ 24 := uz_t er_7 c_9
        refine lv_iload hx hb dX6_film_28 (lv_at hl 4 rfl) ?_
        refine ur_callSi C h (As := [.int x4]) (rest := []) (k_X6_isSheet l E hI M x4) (va_cwS 1 hts gX6_film_X6_isSheet rfl rfl rfl (by decide +kernel) ⟨Nat.le_of_ble_eq_true rfl, Nat.le_of_ble_eq_true rfl⟩) rfl hl.1 rfl (Nat.le_of_ble_eq_true rfl) dX6_film_30 (fun r_10 M_11 H locs hw_11 h => ?_)
        obtain ⟨hu, er_10⟩ := hw_11
        subst hu
        refine lv_if_eq (tgt := 46) hx hb dX6_film_33 (by decide) (fun c_12 => ?_) (fun c_12 => ?_)
        · skip
          have c_12 : ¬ (0 ≤ x4.toInt ∧ x4.toInt ≤ 3) := uz_f er_10 c_12
          refine lv_iconst (v := (-1)) hx hb dX6_film_46 (by decide) ?_
          exact ur_iret C h hr hlocks (by rw [if_neg (fun z => by first | exact absurd z (by assumption) | exact absurd z.1 (by assumption) | exact absurd z.2 (by assumption) | exact absurd z.2.1 (by assumption) | exact absurd z.2.2 (by assumption) | exact absurd z.2.2.1 (by assumption) | exact absurd z.2.2.2 (by assumption) | exact absurd z.2.2.2.1 (by assumption) | exact absurd z.2.2.2.2 (by assumption))]; exact ⟨rfl, rfl⟩) dX6_film_47
        · skip
          have c_12 : 0 ≤ x4.toInt ∧ x4.toInt ≤ 3 := uz_t er_10 c_12
          refine lv_iload hx hb dX6_film_36 (lv_at hl 5 rfl) ?_
          refine lv_iconst (v := 0) hx hb dX6_film_38 (by decide) ?_
          refine lv_iconst (v := 3) hx hb dX6_film_39 (by decide) ?_
          refine ur_callSi C h (As := [.int x5, .int 0, .int 3]) (rest := []) (k_X6_isIn l E hI M x5 0 3) (va_cwS 3 hts gX6_film_X6_isIn rfl rfl rfl (by decide +kernel) ⟨Nat.le_of_ble_eq_true rfl, Nat.le_of_ble_eq_true rfl⟩) rfl hl.1 rfl (Nat.le_of_ble_eq_true rfl) dX6_film_40 (fun r_13 M_14 H locs hw_14 h => ?_)
          obtain ⟨hu, er_13⟩ := hw_14
          subst hu
          have er_13 : r_13 = if 0 ≤ x5.toInt ∧ x5.toInt ≤ 3 then 1 else 0 := u_in32 (x := x5.toInt) rfl rfl rfl er_13
          refine lv_if_ne (tgt := 48) hx hb dX6_film_43 (by decide) (fun c_15 => ?_) (fun c_15 => ?_)
          · skip
            have c_15 : 0 ≤ x5.toInt ∧ x5.toInt ≤ 3 := uz_t er_13 c_15
            obtain ⟨hnx4, enx4⟩ := u_tn (x := x4) (n := 4) ⟨by omega, by omega⟩ (by omega)
            refine lv_aload_n hx hb dX6_film_48 rfl (lv_at hl 0 rfl) ?_
            refine ur_get C h 0 (by decide) (uc_0 E _) (Cn := RX6) (T := TX6) (N := 6) rfl hin6 5 (by decide) (by decide +kernel) rfl dX6_film_49 ?_
            refine lv_iload hx hb dX6_film_52 (lv_at hl 4 rfl) ?_
            refine ur_eq (y := nI (tn x4)) enx4 ?_
            refine ur_aald C h 242 4 (by decide) (uc_242 E _) rfl (tn x4) (by omega) (by decide) dX6_film_54 ?_
            refine lv_astore (lv' := [(7, .ref (E.2.1 (243 + 2 * (tn x4)))), (0, .ref (E.2.1 0)), (1, .int x1), (2, .int x2), (3, .int x3), (4, .int x4), (5, .int x5), (6, .int x6)]) hx hb dX6_film_55 hl (by decide) rfl (fun ls hl => ?_)
            refine lv_aload hx hb dX6_film_57 (lv_at hl 0 rfl) ?_
            refine lv_iload hx hb dX6_film_59 (lv_at hl 6 rfl) ?_
            refine lv_iload hx hb dX6_film_61 (lv_at hl 7 rfl) ?_
            refine lv_iload_n hx hb dX6_film_63 rfl (lv_at hl 4 rfl) ?_
            refine ur_callVi C h (k := (243 + 2 * (tn x4))) (As := [.int x5, .int x6, .int x3]) (rest := []) (k_X4_whyNotTaken l E hI M (243 + 2 * (tn x4)) (⟨tn x4, by omega, rfl⟩ : uSh (243 + 2 * (tn x4))) x5 x6 x3 (hsz (tn x4) (by omega))) (cwV 3 hts gX6_film_X4_whyNotTaken rfl rfl rfl (by decide +kernel) ⟨Nat.le_of_ble_eq_true rfl, Nat.le_of_ble_eq_true rfl⟩) (by have := uSh_lt (⟨tn x4, by omega, rfl⟩ : uSh (243 + 2 * (tn x4))); omega) (uc_s0 (⟨tn x4, by omega, rfl⟩ : uSh (243 + 2 * (tn x4))) E _) (T := TX4) (N := 4) rfl rfl hl.1 rfl (Nat.le_of_ble_eq_true rfl) dX6_film_64 (fun r_16 M_17 H locs hw_17 h => ?_)
            obtain ⟨hu, er_16⟩ := hw_17
            subst hu
            refine ur_eq (y := xWhyS M (243 + 2 * (tn x4)) x5 x6 x3) er_16 ?_
            refine lv_topi (fun v_18 ev_18 => ?_)
            refine lv_istore (lv' := [(8, .int v_18), (7, .ref (E.2.1 (243 + 2 * (tn x4)))), (0, .ref (E.2.1 0)), (1, .int x1), (2, .int x2), (3, .int x3), (4, .int x4), (5, .int x5), (6, .int x6)]) hx hb dX6_film_67 hl (by decide) rfl (fun ls hl => ?_)
            refine lv_iload hx hb dX6_film_69 (lv_at hl 0 rfl) ?_
            refine lv_if_eq (tgt := 77) hx hb dX6_film_71 (by decide) (fun c_19 => ?_) (fun c_19 => ?_)
            · skip
              have hwy : xWhyS M (243 + 2 * (tn x4)) x5 x6 x3 = 0 := ev_18 ▸ c_19
              obtain ⟨hs0, hs1, hs2, hs3, hs4⟩ := xWhyS_ok hwy
              have hz0 := hsz (tn x4) (by omega)
              have h11 : (1 : Int32).toInt = 1 := rfl
              obtain ⟨hnx6, enx6⟩ := u_tn (x := x6) (n := 25) ⟨hs2, by omega⟩ (by omega)
              have hti := tn_int hs2
              have ht3 := tn_int hs3
              obtain ⟨hnx3, enx3⟩ := u_tn (x := x3) (n := 25) ⟨by omega, by omega⟩ (by omega)
              obtain ⟨hnx1, enx1⟩ := u_tn c_3 (by omega)
              obtain ⟨hnx2, enx2⟩ := u_tn c_6 (by omega)
              refine lv_iconst (v := 0) hx hb dX6_film_77 (by decide) ?_
              refine lv_istore (lv' := [(9, .int 0), (8, .int v_18), (7, .ref (E.2.1 (243 + 2 * (tn x4)))), (0, .ref (E.2.1 0)), (1, .int x1), (2, .int x2), (3, .int x3), (4, .int x4), (5, .int x5), (6, .int x6)]) hx hb dX6_film_78 hl (by decide) rfl (fun ls hl => ?_)
              have lp80 : ∀ (n80 : Nat) (i : Nat) (Mi : uM), tn x3 - i < n80 → (i ≤ tn x3) → (Mi = xFilm M (tn x1) (tn x2) (243 + 2 * (tn x4)) (tn x6) i) → ∀ (H : Heap) (locs : List Loc) (ls : Array Slot), uH E Mi s_ H locs → lv_has ls 10 [(9, .int (nI i)), (8, .int v_18), (7, .ref (E.2.1 (243 + 2 * (tn x4)))), (0, .ref (E.2.1 0)), (1, .int x1), (2, .int x2), (3, .int x3), (4, .int x4), (5, .int x5), (6, .int x6)] → W p_ l e_ ({ frames := 5, cells := 0, slots := 0, locals := 120 }) s_ m_ (List.toArray [.ref (E.2.1 0), .int x1, .int x2, .int x3, .int x4, .int x5, .int x6]) bl_ me_ c_ H locs 0 0 (MQ bl_ (va_Qi (fun r u => if (0 ≤ x1.toInt ∧ x1.toInt < n) ∧ (0 ≤ x2.toInt ∧ x2.toInt < nw) ∧ (1 ≤ x3.toInt ∧ x3.toInt ≤ 24) ∧ (0 ≤ x4.toInt ∧ x4.toInt ≤ 3) ∧ (0 ≤ x5.toInt ∧ x5.toInt ≤ 3) then (if xWhyS M (243 + 2 * (tn x4)) x5 x6 x3 = 0 then u = xFilm M (tn x1) (tn x2) (243 + 2 * (tn x4)) (tn x6) (tn x3) ∧ r = x3 else M = u ∧ r = xWhyS M (243 + 2 * (tn x4)) x5 x6 x3) else r = -1 ∧ M = u) (uP E) (uA E)) (List.toArray [.ref (E.2.1 0), .int x1, .int x2, .int x3, .int x4, .int x5, .int x6]) s_ 0 0 (uA E)) (F0 m_ 80 ls []) := by
                intro n80
                induction n80 with
                | zero => intro i Mi hms; exact absurd hms (Nat.not_lt_zero _)
                | succ n80 ih80 =>
                  intro i Mi hms80 hi hMi H locs ls h hl
                  refine lv_iload hx hb dX6_film_80 (lv_at hl 0 rfl) ?_
                  refine lv_iload_n hx hb dX6_film_82 rfl (lv_at hl 6 rfl) ?_
                  refine ur_eq (y := nI (tn x3)) enx3 ?_
                  refine lv_icmp_ge (tgt := 125) hx hb dX6_film_83 (by decide) (fun c_20 => ?_) (fun c_20 => ?_)
                  · skip
                    have c_20 : (tn x3) ≤ i := (nI_leI (a := (tn x3)) (b := i) (by omega) (by omega)).mp c_20
                    refine lv_iload_n hx hb dX6_film_125 rfl (lv_at hl 6 rfl) ?_
                    refine ur_eq (y := nI (tn x3)) enx3 ?_
                    exact ur_iret C h hr hlocks (by rw [if_pos ⟨by assumption, by assumption, by assumption, by assumption, by assumption⟩, if_pos hwy]; exact ⟨by rw [hMi, show i = tn x3 by omega], enx3.symm⟩) dX6_film_126
                  · skip
                    have c_20 : ¬ (tn x3) ≤ i := fun z => c_20 ((nI_leI (a := (tn x3)) (b := i) (by omega) (by omega)).mpr z)
                    refine lv_aload hx hb dX6_film_86 (lv_at hl 2 rfl) ?_
                    refine lv_iload hx hb dX6_film_88 (lv_at hl 9 rfl) ?_
                    refine ur_eq (y := nI (tn x6)) enx6 ?_
                    refine lv_iload hx hb dX6_film_90 (lv_at hl 0 rfl) ?_
                    refine lv_iadd hx hb dX6_film_92 ?_
                    refine ur_eq (y := nI (tn x6 + i)) (nI_add (tn x6) i) ?_
                    refine lv_aload_n hx hb dX6_film_93 rfl (lv_at hl 3 rfl) ?_
                    refine ur_get C h 0 (by decide) (uc_0 E _) (Cn := RX6) (T := TX6) (N := 6) rfl hin6 0 (by decide) (by decide +kernel) rfl dX6_film_94 ?_
                    refine lv_iload_n hx hb dX6_film_97 rfl (lv_at hl 4 rfl) ?_
                    refine ur_eq (y := nI (tn x1)) enx1 ?_
                    refine lv_iload_n hx hb dX6_film_98 rfl (lv_at hl 5 rfl) ?_
                    refine ur_eq (y := nI (tn x2)) enx2 ?_
                    refine lv_aload_n hx hb dX6_film_99 rfl (lv_at hl 3 rfl) ?_
                    refine ur_get C h 0 (by decide) (uc_0 E _) (Cn := RX6) (T := TX6) (N := 6) rfl hin6 0 (by decide) (by decide +kernel) rfl dX6_film_100 ?_
                    refine ur_get C h 1 (by decide) (uc_1 E _) (Cn := RX1) (T := TX1) (N := 11) rfl hin1 8 (by decide) (by decide +kernel) rfl dX6_film_103 ?_
                    refine ur_get C h 7 (by decide) (uc_7 E _) (Cn := RX3) (T := TX3) (N := 6) rfl hin3 4 (by decide) (by decide +kernel) rfl dX6_film_106 ?_
                    refine lv_iload hx hb dX6_film_109 (lv_at hl 0 rfl) ?_
                    refine lv_iadd hx hb dX6_film_111 ?_
                    refine ur_callVi C h (k := 1) (As := [.int (nI (tn x1)), .int (nI (tn x2)), .int ((Mi.1 7 4) + (nI i))]) (rest := [.int (nI (tn x6 + i)), .ref (E.2.1 (243 + 2 * (tn x4)))]) (k_X1_passIn l E hI Mi (tn x1) (tn x2) ((Mi.1 7 4) + (nI i)) (by omega) (by omega) (by rw [hMi, xFilm_1]; exact ht)) (cwV 3 hts gX6_film_X1_passIn rfl rfl rfl (by decide +kernel) ⟨Nat.le_of_ble_eq_true rfl, Nat.le_of_ble_eq_true rfl⟩) (by decide) (uc_1 E _) (T := TX1) (N := 11) rfl rfl hl.1 rfl (Nat.le_of_ble_eq_true rfl) dX6_film_112 (fun r_21 M_22 H locs hw_22 h => ?_)
                    obtain ⟨hu, er_21⟩ := hw_22
                    subst hu
                    refine ur_eq (y := xPassIn Mi (tn x1) (tn x2) ((Mi.1 7 4) + (nI i))) er_21 ?_
                    refine lv_i2l (v := (xPassIn Mi (tn x1) (tn x2) ((Mi.1 7 4) + (nI i))).toInt64) hx hb dX6_film_115 rfl ?_
                    refine ur_callVv C h (k := (243 + 2 * (tn x4))) (As := [.int (nI (tn x6 + i)), .long ((xPassIn Mi (tn x1) (tn x2) ((Mi.1 7 4) + (nI i))).toInt64)]) (rest := []) (k_X4_put l E hI Mi (243 + 2 * (tn x4)) (⟨tn x4, by omega, rfl⟩ : uSh (243 + 2 * (tn x4))) (tn x6 + i) ((xPassIn Mi (tn x1) (tn x2) ((Mi.1 7 4) + (nI i))).toInt64) (by omega)) (cwV 2 hts gX6_film_X4_put rfl rfl rfl (by decide +kernel) ⟨Nat.le_of_ble_eq_true rfl, Nat.le_of_ble_eq_true rfl⟩) (by have := uSh_lt (⟨tn x4, by omega, rfl⟩ : uSh (243 + 2 * (tn x4))); omega) (uc_s0 (⟨tn x4, by omega, rfl⟩ : uSh (243 + 2 * (tn x4))) E _) (T := TX4) (N := 4) rfl rfl hl.1 rfl (Nat.le_of_ble_eq_true rfl) dX6_film_116 (fun M_24 H locs hw_24 h => ?_)
                    have eM_24 := hw_24
                    refine lv_iinc (v := nI (i + 1)) (lv' := [(9, .int (nI (i + 1))), (8, .int v_18), (7, .ref (E.2.1 (243 + 2 * (tn x4)))), (0, .ref (E.2.1 0)), (1, .int x1), (2, .int x2), (3, .int x3), (4, .int x4), (5, .int x5), (6, .int x6)]) hx hb dX6_film_119 hl (k := 0) rfl (nI_add i 1) (by decide) rfl (fun ls hl => ?_)
                    refine lv_goto (tgt := 80) hx hb dX6_film_122 (by decide) ?_
                    exact ih80  (i + 1) M_24 (by omega) (by omega) (by subst ev_18; subst eM_24; subst hMi; rfl) _ _ _ h (lv_sub hl [0, 1, 2, 3, 4, 5, 6, 7, 8, 9] rfl)
              exact lp80 _ 0 M (Nat.lt_succ_self _) (by omega) rfl _ _ _ h (lv_sub hl [0, 1, 2, 3, 4, 5, 6, 7, 8, 9] rfl)
            · skip
              refine lv_iload hx hb dX6_film_74 (lv_at hl 0 rfl) ?_
              exact ur_iret C h hr hlocks (by subst ev_18; rw [if_pos ⟨by assumption, by assumption, by assumption, by assumption, by assumption⟩, if_neg (by assumption)]; exact ⟨rfl, rfl⟩) dX6_film_76
          · skip
            have c_15 : ¬ (0 ≤ x5.toInt ∧ x5.toInt ≤ 3) := uz_f er_13 c_15
            refine lv_iconst (v := (-1)) hx hb dX6_film_46 (by decide) ?_
            exact ur_iret C h hr hlocks (by rw [if_neg (fun z => by first | exact absurd z (by assumption) | exact absurd z.1 (by assumption) | exact absurd z.2 (by assumption) | exact absurd z.2.1 (by assumption) | exact absurd z.2.2 (by assumption) | exact absurd z.2.2.1 (by assumption) | exact absurd z.2.2.2 (by assumption) | exact absurd z.2.2.2.1 (by assumption) | exact absurd z.2.2.2.2 (by assumption))]; exact ⟨rfl, rfl⟩) dX6_film_47
      · skip
        have c_9 : ¬ (1 ≤ x3.toInt ∧ x3.toInt ≤ 24) := uz_f er_7 c_9
        refine lv_iconst (v := (-1)) hx hb dX6_film_26 (by decide) ?_
        exact ur_iret C h hr hlocks (by rw [if_neg (fun z => by first | exact absurd z (by assumption) | exact absurd z.1 (by assumption) | exact absurd z.2 (by assumption) | exact absurd z.2.1 (by assumption) | exact absurd z.2.2 (by assumption) | exact absurd z.2.2.1 (by assumption) | exact absurd z.2.2.2 (by assumption) | exact absurd z.2.2.2.1 (by assumption) | exact absurd z.2.2.2.2 (by assumption))]; exact ⟨rfl, rfl⟩) dX6_film_27
set_option maxHeartbeats 1000000 in
set_option maxRecDepth 100000 in
theorem k_X6_who (l : Launch) (E : uE) (hI : uI E) (M : uM) (x1 x2 x3 x4 x5 : Int32) (n : Nat) (hn : M.1 1 0 = nI n) (hn6 : n ≤ 6) (nw : Nat) (hnw : M.1 1 4 = nI nw) (hnw6 : nw ≤ 6) (ht : ¬ M.1 1 7 = 0) (hsz : ∀ i, i < 4 → 0 ≤ (M.1 (243 + 2 * i) 2).toInt ∧ (M.1 (243 + 2 * i) 2).toInt ≤ 24) : Met l yX6_who wsX6_who ({ frames := 7, cells := 0, slots := 0, locals := 169 }) (va_Pc [.ref (E.2.1 0), .int x1, .int x2, .int x3, .int x4, .int x5] (uB E M)) (va_Qi (fun r u => if (0 ≤ x1.toInt ∧ x1.toInt ≤ 3) ∧ (0 ≤ x2.toInt ∧ x2.toInt ≤ 3) ∧ (1 ≤ x4.toInt ∧ x4.toInt ≤ 8) ∧ (x5 = (-4) ∨ (0 ≤ x5.toInt ∧ x5.toInt < n)) then (if xWhyS M (243 + 2 * (tn x1)) x2 x3 (nI (2 * tn x4)) = 0 then (if uAll (xTold nw (M.2.1 ((243 + 2 * (tn x1)) + 1)) (tn x3)) true (tn x4) = true then ∃ LL, u = uRowL M 239 LL ∧ (∀ p, p < n → LL p = uLike (xLk M (M.2.1 ((243 + 2 * (tn x1)) + 1)) p (tn x3)) (tn x4)) ∧ r = (if x5 = (-4) then pb n (xBst LL n) else if xSumL LL n = 0 then 0 else (LL (tn x5) * 1000000 / xSumL LL n).toInt32) else r = -2 ∧ M = u) else M = u ∧ r = xWhyS M (243 + 2 * (tn x1)) x2 x3 (nI (2 * tn x4))) else r = -1 ∧ M = u) (uP E) (uA E)) 0 0 (uA E) := by
  have hin6 : ∀ w ∈ wsX60, w ∈ wsX6_who := by decide +kernel
  refine u_start (cc := cX6_who) (maxL := 8) (ret := (some .int)) hI (by decide) rfl (Nat.le_of_ble_eq_true rfl) ?_
  intro p_ e_ s_ m_ bl_ me_ c_ C hr hlocks h ls hl
  have hx := C.1.1
  have hb := C.1.2.1
  have hown : s_.vm.findClass RX6 = some m_.cls := C.1.2.2.2.1
  have hts := C.1.2.2.2.2
  have hl : lv_has ls 8 [(0, .ref (E.2.1 0)), (1, .int x1), (2, .int x2), (3, .int x3), (4, .int x4), (5, .int x5)] := hl
  refine lv_iload_n hx hb dX6_who_0 rfl (lv_at hl 1 rfl) ?_
  refine ur_callSi C h (As := [.int x1]) (rest := []) (k_X6_isSheet l E hI M x1) (va_cwS 1 hts gX6_who_X6_isSheet rfl rfl rfl (by decide +kernel) ⟨Nat.le_of_ble_eq_true rfl, Nat.le_of_ble_eq_true rfl⟩) rfl hl.1 rfl (Nat.le_of_ble_eq_true rfl) dX6_who_1 (fun r_1 M_2 H locs hw_2 h => ?_)
  obtain ⟨hu, er_1⟩ := hw_2
  subst hu
  refine lv_if_eq (tgt := 27) hx hb dX6_who_4 (by decide) (fun c_3 => ?_) (fun c_3 => ?_)
  · skip
    have c_3 : ¬ (0 ≤ x1.toInt ∧ x1.toInt ≤ 3) := uz_f er_1 c_3
    refine lv_iconst (v := (-1)) hx hb dX6_who_27 (by decide) ?_
    exact ur_iret C h hr hlocks (by rw [if_neg (fun z => by obtain ⟨z1, z2, z3, z4⟩ := z; first | exact absurd z1 (by assumption) | exact absurd z2 (by assumption) | exact absurd z3 (by assumption) | (rcases z4 with z4 | z4; exact absurd z4 (by assumption); exact absurd z4 (by assumption)))]; exact ⟨rfl, rfl⟩) dX6_who_28
  · skip
    have c_3 : 0 ≤ x1.toInt ∧ x1.toInt ≤ 3 := uz_t er_1 c_3
    refine lv_iload_n hx hb dX6_who_7 rfl (lv_at hl 2 rfl) ?_
    refine lv_iconst (v := 0) hx hb dX6_who_8 (by decide) ?_
    refine lv_iconst (v := 3) hx hb dX6_who_9 (by decide) ?_
    refine ur_callSi C h (As := [.int x2, .int 0, .int 3]) (rest := []) (k_X6_isIn l E hI M x2 0 3) (va_cwS 3 hts gX6_who_X6_isIn rfl rfl rfl (by decide +kernel) ⟨Nat.le_of_ble_eq_true rfl, Nat.le_of_ble_eq_true rfl⟩) rfl hl.1 rfl (Nat.le_of_ble_eq_true rfl) dX6_who_10 (fun r_4 M_5 H locs hw_5 h => ?_)
    obtain ⟨hu, er_4⟩ := hw_5
    subst hu
    have er_4 : r_4 = if 0 ≤ x2.toInt ∧ x2.toInt ≤ 3 then 1 else 0 := u_in32 (x := x2.toInt) rfl rfl rfl er_4
    refine lv_if_eq (tgt := 27) hx hb dX6_who_13 (by decide) (fun c_6 => ?_) (fun c_6 => ?_)
    · skip
      have c_6 : ¬ (0 ≤ x2.toInt ∧ x2.toInt ≤ 3) := uz_f er_4 c_6
      refine lv_iconst (v := (-1)) hx hb dX6_who_27 (by decide) ?_
      exact ur_iret C h hr hlocks (by rw [if_neg (fun z => by obtain ⟨z1, z2, z3, z4⟩ := z; first | exact absurd z1 (by assumption) | exact absurd z2 (by assumption) | exact absurd z3 (by assumption) | (rcases z4 with z4 | z4; exact absurd z4 (by assumption); exact absurd z4 (by assumption)))]; exact ⟨rfl, rfl⟩) dX6_who_28
    · skip
      have c_6 : 0 ≤ x2.toInt ∧ x2.toInt ≤ 3 := uz_t er_4 c_6
      refine lv_iload hx hb dX6_who_16 (lv_at hl 4 rfl) ?_
      refine lv_iconst (v := 1) hx hb dX6_who_18 (by decide) ?_
      refine lv_bipush (v := 8) hx hb dX6_who_19 (by decide) ?_
      refine ur_callSi C h (As := [.int x4, .int 1, .int 8]) (rest := []) (k_X6_isIn l E hI M x4 1 8) (va_cwS 3 hts gX6_who_X6_isIn rfl rfl rfl (by decide +kernel) ⟨Nat.le_of_ble_eq_true rfl, Nat.le_of_ble_eq_true rfl⟩) rfl hl.1 rfl (Nat.le_of_ble_eq_true rfl) dX6_who_21 (fun r_7 M_8 H locs hw_8 h => ?_)
      obtain ⟨hu, er_7⟩ := hw_8
      subst hu
      have er_7 : r_7 = if 1 ≤ x4.toInt ∧ x4.toInt ≤ 8 then 1 else 0 := u_in32 (x := x4.toInt) rfl rfl rfl er_7
      refine lv_if_ne (tgt := 29) hx hb dX6_who_24 (by decide) (fun c_9 => ?_) (fun c_9 => ?_)
      · skip
        have c_9 : 1 ≤ x4.toInt ∧ x4.toInt ≤ 8 := uz_t er_7 c_9
        refine lv_iload hx hb dX6_who_29 (lv_at hl 5 rfl) ?_
        refine lv_bipush (v := (-4)) hx hb dX6_who_31 (by decide) ?_
        refine lv_icmp_eq (tgt := 47) hx hb dX6_who_33 (by decide) (fun c_10 => ?_) (fun c_10 => ?_)
        · skip
          obtain ⟨hnx1, enx1⟩ := u_tn (x := x1) (n := 4) ⟨by omega, by omega⟩ (by omega)
          obtain ⟨hnx4, enx4⟩ := u_tn (x := x4) (n := 9) ⟨by omega, by omega⟩ (by omega)
          have ht4 := tn_int (x := x4) (by omega)
          refine lv_aload_n hx hb dX6_who_47 rfl (lv_at hl 0 rfl) ?_
          refine ur_get C h 0 (by decide) (uc_0 E _) (Cn := RX6) (T := TX6) (N := 6) rfl hin6 5 (by decide) (by decide +kernel) rfl dX6_who_48 ?_
          refine lv_iload_n hx hb dX6_who_51 rfl (lv_at hl 1 rfl) ?_
          refine ur_eq (y := nI (tn x1)) enx1 ?_
          refine ur_aald C h 242 4 (by decide) (uc_242 E _) rfl (tn x1) (by omega) (by decide) dX6_who_52 ?_
          refine lv_astore (lv' := [(6, .ref (E.2.1 (243 + 2 * (tn x1)))), (0, .ref (E.2.1 0)), (1, .int x1), (2, .int x2), (3, .int x3), (4, .int x4), (5, .int x5)]) hx hb dX6_who_53 hl (by decide) rfl (fun ls hl => ?_)
          refine lv_aload hx hb dX6_who_55 (lv_at hl 0 rfl) ?_
          refine lv_iload_n hx hb dX6_who_57 rfl (lv_at hl 3 rfl) ?_
          refine lv_iload_n hx hb dX6_who_58 rfl (lv_at hl 4 rfl) ?_
          refine lv_iconst (v := 2) hx hb dX6_who_59 (by decide) ?_
          refine lv_iload hx hb dX6_who_60 (lv_at hl 5 rfl) ?_
          refine ur_eq (y := nI (tn x4)) enx4 ?_
          refine lv_imul hx hb dX6_who_62 ?_
          refine ur_eq (y := nI (2 * (tn x4))) (pk_mul 2 (tn x4)) ?_
          refine ur_callVi C h (k := (243 + 2 * (tn x1))) (As := [.int x2, .int x3, .int (nI (2 * (tn x4)))]) (rest := []) (k_X4_whyNotTaken l E hI M (243 + 2 * (tn x1)) (⟨tn x1, by omega, rfl⟩ : uSh (243 + 2 * (tn x1))) x2 x3 (nI (2 * (tn x4))) (hsz (tn x1) (by omega))) (cwV 3 hts gX6_who_X4_whyNotTaken rfl rfl rfl (by decide +kernel) ⟨Nat.le_of_ble_eq_true rfl, Nat.le_of_ble_eq_true rfl⟩) (by have := uSh_lt (⟨tn x1, by omega, rfl⟩ : uSh (243 + 2 * (tn x1))); omega) (uc_s0 (⟨tn x1, by omega, rfl⟩ : uSh (243 + 2 * (tn x1))) E _) (T := TX4) (N := 4) rfl rfl hl.1 rfl (Nat.le_of_ble_eq_true rfl) dX6_who_63 (fun r_11 M_12 H locs hw_12 h => ?_)
          obtain ⟨hu, er_11⟩ := hw_12
          subst hu
          refine ur_eq (y := xWhyS M (243 + 2 * (tn x1)) x2 x3 (nI (2 * (tn x4)))) er_11 ?_
          refine lv_topi (fun v_13 ev_13 => ?_)
          refine lv_istore (lv' := [(7, .int v_13), (6, .ref (E.2.1 (243 + 2 * (tn x1)))), (0, .ref (E.2.1 0)), (1, .int x1), (2, .int x2), (3, .int x3), (4, .int x4), (5, .int x5)]) hx hb dX6_who_66 hl (by decide) rfl (fun ls hl => ?_)
          refine lv_iload hx hb dX6_who_68 (lv_at hl 0 rfl) ?_
          refine lv_if_eq (tgt := 76) hx hb dX6_who_70 (by decide) (fun c_14 => ?_) (fun c_14 => ?_)
          · skip
            have hwy : xWhyS M (243 + 2 * (tn x1)) x2 x3 (nI (2 * tn x4)) = 0 := ev_13 ▸ c_14
            obtain ⟨hs0, hs1, hs2, hs3, hs4⟩ := xWhyS_ok hwy
            have hz0 := hsz (tn x1) (by omega)
            have h11 : (1 : Int32).toInt = 1 := rfl
            obtain ⟨hnx3, enx3⟩ := u_tn (x := x3) (n := 25) ⟨hs2, by omega⟩ (by omega)
            have hti := tn_int hs2
            have h2t : (nI (2 * tn x4)).toInt = 2 * tn x4 := by rw [nI_toInt (by omega)]; omega
            refine lv_aload_n hx hb dX6_who_76 rfl (lv_at hl 2 rfl) ?_
            refine lv_aload hx hb dX6_who_77 (lv_at hl 1 rfl) ?_
            refine lv_iload_n hx hb dX6_who_79 rfl (lv_at hl 5 rfl) ?_
            refine ur_eq (y := nI (tn x3)) enx3 ?_
            refine lv_iload hx hb dX6_who_80 (lv_at hl 6 rfl) ?_
            refine ur_eq (y := nI (tn x4)) enx4 ?_
            refine ur_callVi C h (k := 0) (As := [.ref (E.2.1 (243 + 2 * (tn x1))), .int (nI (tn x3)), .int (nI (tn x4))]) (rest := []) (k_X6_areTold l E hI M (243 + 2 * (tn x1)) (⟨tn x1, by omega, rfl⟩ : uSh (243 + 2 * (tn x1))) (tn x3) (tn x4) (by omega) nw hnw hnw6) (cwV 3 hts gX6_who_X6_areTold rfl rfl rfl (by decide +kernel) ⟨Nat.le_of_ble_eq_true rfl, Nat.le_of_ble_eq_true rfl⟩) (by decide) (uc_0 E _) (T := TX6) (N := 6) rfl rfl hl.1 rfl (Nat.le_of_ble_eq_true rfl) dX6_who_82 (fun r_15 M_16 H locs hw_16 h => ?_)
            obtain ⟨hu, er_15⟩ := hw_16
            subst hu
            refine lv_if_ne (tgt := 91) hx hb dX6_who_85 (by decide) (fun c_17 => ?_) (fun c_17 => ?_)
            · skip
              have c_17 : uAll (xTold nw (M.2.1 ((243 + 2 * (tn x1)) + 1)) (tn x3)) true (tn x4) = true := uz_t er_15 c_17
              have hwd := xTold_wd hnw6 c_17
              refine lv_aload_n hx hb dX6_who_91 rfl (lv_at hl 2 rfl) ?_
              refine ur_get C h 0 (by decide) (uc_0 E _) (Cn := RX6) (T := TX6) (N := 6) rfl hin6 3 (by decide) (by decide +kernel) rfl dX6_who_92 ?_
              refine lv_aload hx hb dX6_who_95 (lv_at hl 1 rfl) ?_
              refine lv_iload_n hx hb dX6_who_97 rfl (lv_at hl 5 rfl) ?_
              refine ur_eq (y := nI (tn x3)) enx3 ?_
              refine lv_iload hx hb dX6_who_98 (lv_at hl 6 rfl) ?_
              refine ur_eq (y := nI (tn x4)) enx4 ?_
              refine ur_callVv C h (k := 235) (As := [.ref (E.2.1 (243 + 2 * (tn x1))), .int (nI (tn x3)), .int (nI (tn x4))]) (rest := []) (k_X2_weighLikes l E hI M (243 + 2 * (tn x1)) (⟨tn x1, by omega, rfl⟩ : uSh (243 + 2 * (tn x1))) (tn x3) (tn x4) (by omega) hwd n hn hn6 ht) (cwV 3 hts gX6_who_X2_weighLikes rfl rfl rfl (by decide +kernel) ⟨Nat.le_of_ble_eq_true rfl, Nat.le_of_ble_eq_true rfl⟩) (by decide) (uc_235 E _) (T := TX2) (N := 5) rfl rfl hl.1 rfl (Nat.le_of_ble_eq_true rfl) dX6_who_100 (fun M_19 H locs hw_19 h => ?_)
              obtain ⟨LL, eM_19, hLL⟩ := hw_19
              refine lv_iload hx hb dX6_who_103 (lv_at hl 7 rfl) ?_
              refine lv_bipush (v := (-4)) hx hb dX6_who_105 (by decide) ?_
              refine lv_icmp_ne (tgt := 120) hx hb dX6_who_107 (by decide) (fun c_20 => ?_) (fun c_20 => ?_)
              · skip
                exact absurd c_10 c_20
              · skip
                refine lv_aload_n hx hb dX6_who_110 rfl (lv_at hl 2 rfl) ?_
                refine ur_get C h 0 (by decide) (uc_0 E _) (Cn := RX6) (T := TX6) (N := 6) rfl hin6 3 (by decide) (by decide +kernel) rfl dX6_who_111 ?_
                refine ur_callVi C h (k := 235) (As := []) (rest := []) (k_X2_likeliest l E hI M_19 n ((by rw [eM_19]; exact hn)) hn6) (cwV 0 hts gX6_who_X2_likeliest rfl rfl rfl (by decide +kernel) ⟨Nat.le_of_ble_eq_true rfl, Nat.le_of_ble_eq_true rfl⟩) (by decide) (uc_235 E _) (T := TX2) (N := 5) rfl rfl hl.1 rfl (Nat.le_of_ble_eq_true rfl) dX6_who_114 (fun r_21 M_22 H locs hw_22 h => ?_)
                obtain ⟨hu, er_21⟩ := hw_22
                subst hu
                refine ur_eq (y := pb n (xBst (M_19.2.1 239) n)) er_21 ?_
                refine lv_goto (tgt := 129) hx hb dX6_who_117 (by decide) ?_
                exact ur_iret C h hr hlocks (by rw [if_pos ⟨c_3, c_6, c_9, by first | exact Or.inl (by assumption) | exact Or.inr (by assumption)⟩, if_pos hwy, if_pos (by assumption)]; exact ⟨LL, eM_19, hLL, by rw [if_pos c_20, eM_19]; rfl⟩) dX6_who_129
            · skip
              have c_17 : ¬ (uAll (xTold nw (M.2.1 ((243 + 2 * (tn x1)) + 1)) (tn x3)) true (tn x4) = true) := uz_f er_15 c_17
              refine lv_bipush (v := (-2)) hx hb dX6_who_88 (by decide) ?_
              exact ur_iret C h hr hlocks (by rw [if_pos ⟨c_3, c_6, c_9, by first | exact Or.inl (by assumption) | exact Or.inr (by assumption)⟩, if_pos hwy, if_neg c_17]; exact ⟨rfl, rfl⟩) dX6_who_90
          · skip
            refine lv_iload hx hb dX6_who_73 (lv_at hl 0 rfl) ?_
            exact ur_iret C h hr hlocks (by subst ev_13; rw [if_pos ⟨c_3, c_6, c_9, by first | exact Or.inl (by assumption) | exact Or.inr (by assumption)⟩, if_neg (by assumption)]; exact ⟨rfl, rfl⟩) dX6_who_75
        · skip
          refine lv_aload_n hx hb dX6_who_36 rfl (lv_at hl 0 rfl) ?_
          refine lv_iload hx hb dX6_who_37 (lv_at hl 5 rfl) ?_
          refine ur_callVi C h (k := 0) (As := [.int x5]) (rest := []) (k_X6_isSpeaker l E hI M x5 n hn hn6) (cwV 1 hts gX6_who_X6_isSpeaker rfl rfl rfl (by decide +kernel) ⟨Nat.le_of_ble_eq_true rfl, Nat.le_of_ble_eq_true rfl⟩) (by decide) (uc_0 E _) (T := TX6) (N := 6) rfl rfl hl.1 rfl (Nat.le_of_ble_eq_true rfl) dX6_who_39 (fun r_23 M_24 H locs hw_24 h => ?_)
          obtain ⟨hu, er_23⟩ := hw_24
          subst hu
          refine lv_if_ne (tgt := 47) hx hb dX6_who_42 (by decide) (fun c_25 => ?_) (fun c_25 => ?_)
          · skip
            have c_25 : 0 ≤ x5.toInt ∧ x5.toInt < n := uz_t er_23 c_25
            obtain ⟨hnx1, enx1⟩ := u_tn (x := x1) (n := 4) ⟨by omega, by omega⟩ (by omega)
            obtain ⟨hnx4, enx4⟩ := u_tn (x := x4) (n := 9) ⟨by omega, by omega⟩ (by omega)
            have ht4 := tn_int (x := x4) (by omega)
            refine lv_aload_n hx hb dX6_who_47 rfl (lv_at hl 0 rfl) ?_
            refine ur_get C h 0 (by decide) (uc_0 E _) (Cn := RX6) (T := TX6) (N := 6) rfl hin6 5 (by decide) (by decide +kernel) rfl dX6_who_48 ?_
            refine lv_iload_n hx hb dX6_who_51 rfl (lv_at hl 1 rfl) ?_
            refine ur_eq (y := nI (tn x1)) enx1 ?_
            refine ur_aald C h 242 4 (by decide) (uc_242 E _) rfl (tn x1) (by omega) (by decide) dX6_who_52 ?_
            refine lv_astore (lv' := [(6, .ref (E.2.1 (243 + 2 * (tn x1)))), (0, .ref (E.2.1 0)), (1, .int x1), (2, .int x2), (3, .int x3), (4, .int x4), (5, .int x5)]) hx hb dX6_who_53 hl (by decide) rfl (fun ls hl => ?_)
            refine lv_aload hx hb dX6_who_55 (lv_at hl 0 rfl) ?_
            refine lv_iload_n hx hb dX6_who_57 rfl (lv_at hl 3 rfl) ?_
            refine lv_iload_n hx hb dX6_who_58 rfl (lv_at hl 4 rfl) ?_
            refine lv_iconst (v := 2) hx hb dX6_who_59 (by decide) ?_
            refine lv_iload hx hb dX6_who_60 (lv_at hl 5 rfl) ?_
            refine ur_eq (y := nI (tn x4)) enx4 ?_
            refine lv_imul hx hb dX6_who_62 ?_
            refine ur_eq (y := nI (2 * (tn x4))) (pk_mul 2 (tn x4)) ?_
            refine ur_callVi C h (k := (243 + 2 * (tn x1))) (As := [.int x2, .int x3, .int (nI (2 * (tn x4)))]) (rest := []) (k_X4_whyNotTaken l E hI M (243 + 2 * (tn x1)) (⟨tn x1, by omega, rfl⟩ : uSh (243 + 2 * (tn x1))) x2 x3 (nI (2 * (tn x4))) (hsz (tn x1) (by omega))) (cwV 3 hts gX6_who_X4_whyNotTaken rfl rfl rfl (by decide +kernel) ⟨Nat.le_of_ble_eq_true rfl, Nat.le_of_ble_eq_true rfl⟩) (by have := uSh_lt (⟨tn x1, by omega, rfl⟩ : uSh (243 + 2 * (tn x1))); omega) (uc_s0 (⟨tn x1, by omega, rfl⟩ : uSh (243 + 2 * (tn x1))) E _) (T := TX4) (N := 4) rfl rfl hl.1 rfl (Nat.le_of_ble_eq_true rfl) dX6_who_63 (fun r_26 M_27 H locs hw_27 h => ?_)
            obtain ⟨hu, er_26⟩ := hw_27
            subst hu
            refine ur_eq (y := xWhyS M (243 + 2 * (tn x1)) x2 x3 (nI (2 * (tn x4)))) er_26 ?_
            refine lv_topi (fun v_28 ev_28 => ?_)
            refine lv_istore (lv' := [(7, .int v_28), (6, .ref (E.2.1 (243 + 2 * (tn x1)))), (0, .ref (E.2.1 0)), (1, .int x1), (2, .int x2), (3, .int x3), (4, .int x4), (5, .int x5)]) hx hb dX6_who_66 hl (by decide) rfl (fun ls hl => ?_)
            refine lv_iload hx hb dX6_who_68 (lv_at hl 0 rfl) ?_
            refine lv_if_eq (tgt := 76) hx hb dX6_who_70 (by decide) (fun c_29 => ?_) (fun c_29 => ?_)
            · skip
              have hwy : xWhyS M (243 + 2 * (tn x1)) x2 x3 (nI (2 * tn x4)) = 0 := ev_28 ▸ c_29
              obtain ⟨hs0, hs1, hs2, hs3, hs4⟩ := xWhyS_ok hwy
              have hz0 := hsz (tn x1) (by omega)
              have h11 : (1 : Int32).toInt = 1 := rfl
              obtain ⟨hnx3, enx3⟩ := u_tn (x := x3) (n := 25) ⟨hs2, by omega⟩ (by omega)
              have hti := tn_int hs2
              have h2t : (nI (2 * tn x4)).toInt = 2 * tn x4 := by rw [nI_toInt (by omega)]; omega
              refine lv_aload_n hx hb dX6_who_76 rfl (lv_at hl 2 rfl) ?_
              refine lv_aload hx hb dX6_who_77 (lv_at hl 1 rfl) ?_
              refine lv_iload_n hx hb dX6_who_79 rfl (lv_at hl 5 rfl) ?_
              refine ur_eq (y := nI (tn x3)) enx3 ?_
              refine lv_iload hx hb dX6_who_80 (lv_at hl 6 rfl) ?_
              refine ur_eq (y := nI (tn x4)) enx4 ?_
              refine ur_callVi C h (k := 0) (As := [.ref (E.2.1 (243 + 2 * (tn x1))), .int (nI (tn x3)), .int (nI (tn x4))]) (rest := []) (k_X6_areTold l E hI M (243 + 2 * (tn x1)) (⟨tn x1, by omega, rfl⟩ : uSh (243 + 2 * (tn x1))) (tn x3) (tn x4) (by omega) nw hnw hnw6) (cwV 3 hts gX6_who_X6_areTold rfl rfl rfl (by decide +kernel) ⟨Nat.le_of_ble_eq_true rfl, Nat.le_of_ble_eq_true rfl⟩) (by decide) (uc_0 E _) (T := TX6) (N := 6) rfl rfl hl.1 rfl (Nat.le_of_ble_eq_true rfl) dX6_who_82 (fun r_30 M_31 H locs hw_31 h => ?_)
              obtain ⟨hu, er_30⟩ := hw_31
              subst hu
              refine lv_if_ne (tgt := 91) hx hb dX6_who_85 (by decide) (fun c_32 => ?_) (fun c_32 => ?_)
              · skip
                have c_32 : uAll (xTold nw (M.2.1 ((243 + 2 * (tn x1)) + 1)) (tn x3)) true (tn x4) = true := uz_t er_30 c_32
                have hwd := xTold_wd hnw6 c_32
                refine lv_aload_n hx hb dX6_who_91 rfl (lv_at hl 2 rfl) ?_
                refine ur_get C h 0 (by decide) (uc_0 E _) (Cn := RX6) (T := TX6) (N := 6) rfl hin6 3 (by decide) (by decide +kernel) rfl dX6_who_92 ?_
                refine lv_aload hx hb dX6_who_95 (lv_at hl 1 rfl) ?_
                refine lv_iload_n hx hb dX6_who_97 rfl (lv_at hl 5 rfl) ?_
                refine ur_eq (y := nI (tn x3)) enx3 ?_
                refine lv_iload hx hb dX6_who_98 (lv_at hl 6 rfl) ?_
                refine ur_eq (y := nI (tn x4)) enx4 ?_
                refine ur_callVv C h (k := 235) (As := [.ref (E.2.1 (243 + 2 * (tn x1))), .int (nI (tn x3)), .int (nI (tn x4))]) (rest := []) (k_X2_weighLikes l E hI M (243 + 2 * (tn x1)) (⟨tn x1, by omega, rfl⟩ : uSh (243 + 2 * (tn x1))) (tn x3) (tn x4) (by omega) hwd n hn hn6 ht) (cwV 3 hts gX6_who_X2_weighLikes rfl rfl rfl (by decide +kernel) ⟨Nat.le_of_ble_eq_true rfl, Nat.le_of_ble_eq_true rfl⟩) (by decide) (uc_235 E _) (T := TX2) (N := 5) rfl rfl hl.1 rfl (Nat.le_of_ble_eq_true rfl) dX6_who_100 (fun M_34 H locs hw_34 h => ?_)
                obtain ⟨LL, eM_34, hLL⟩ := hw_34
                refine lv_iload hx hb dX6_who_103 (lv_at hl 7 rfl) ?_
                refine lv_bipush (v := (-4)) hx hb dX6_who_105 (by decide) ?_
                refine lv_icmp_ne (tgt := 120) hx hb dX6_who_107 (by decide) (fun c_35 => ?_) (fun c_35 => ?_)
                · skip
                  obtain ⟨hnx5, enx5⟩ := u_tn c_25 (by omega)
                  refine lv_aload_n hx hb dX6_who_120 rfl (lv_at hl 2 rfl) ?_
                  refine ur_get C h 0 (by decide) (uc_0 E _) (Cn := RX6) (T := TX6) (N := 6) rfl hin6 3 (by decide) (by decide +kernel) rfl dX6_who_121 ?_
                  refine lv_iload hx hb dX6_who_124 (lv_at hl 7 rfl) ?_
                  refine ur_eq (y := nI (tn x5)) enx5 ?_
                  refine ur_callVi C h (k := 235) (As := [.int (nI (tn x5))]) (rest := []) (k_X2_partFor l E hI M_34 (tn x5) (by omega) n ((by rw [eM_34]; exact hn)) hn6) (cwV 1 hts gX6_who_X2_partFor rfl rfl rfl (by decide +kernel) ⟨Nat.le_of_ble_eq_true rfl, Nat.le_of_ble_eq_true rfl⟩) (by decide) (uc_235 E _) (T := TX2) (N := 5) rfl rfl hl.1 rfl (Nat.le_of_ble_eq_true rfl) dX6_who_126 (fun r_36 M_37 H locs hw_37 h => ?_)
                  obtain ⟨hu, er_36⟩ := hw_37
                  subst hu
                  refine ur_eq (y := if xSumL (M_34.2.1 239) n = 0 then 0 else (M_34.2.1 239 (tn x5) * 1000000 / xSumL (M_34.2.1 239) n).toInt32) er_36 ?_
                  exact ur_iret C h hr hlocks (by rw [if_pos ⟨c_3, c_6, c_9, by first | exact Or.inl (by assumption) | exact Or.inr (by assumption)⟩, if_pos hwy, if_pos (by assumption)]; exact ⟨LL, eM_34, hLL, by rw [if_neg c_35, eM_34]; rfl⟩) dX6_who_129
                · skip
                  exact absurd c_35 c_10
              · skip
                have c_32 : ¬ (uAll (xTold nw (M.2.1 ((243 + 2 * (tn x1)) + 1)) (tn x3)) true (tn x4) = true) := uz_f er_30 c_32
                refine lv_bipush (v := (-2)) hx hb dX6_who_88 (by decide) ?_
                exact ur_iret C h hr hlocks (by rw [if_pos ⟨c_3, c_6, c_9, by first | exact Or.inl (by assumption) | exact Or.inr (by assumption)⟩, if_pos hwy, if_neg c_32]; exact ⟨rfl, rfl⟩) dX6_who_90
            · skip
              refine lv_iload hx hb dX6_who_73 (lv_at hl 0 rfl) ?_
              exact ur_iret C h hr hlocks (by subst ev_28; rw [if_pos ⟨c_3, c_6, c_9, by first | exact Or.inl (by assumption) | exact Or.inr (by assumption)⟩, if_neg (by assumption)]; exact ⟨rfl, rfl⟩) dX6_who_75
          · skip
            have c_25 : ¬ (0 ≤ x5.toInt ∧ x5.toInt < n) := uz_f er_23 c_25
            refine lv_iconst (v := (-1)) hx hb dX6_who_45 (by decide) ?_
            exact ur_iret C h hr hlocks (by rw [if_neg (fun z => by obtain ⟨z1, z2, z3, z4⟩ := z; first | exact absurd z1 (by assumption) | exact absurd z2 (by assumption) | exact absurd z3 (by assumption) | (rcases z4 with z4 | z4; exact absurd z4 (by assumption); exact absurd z4 (by assumption)))]; exact ⟨rfl, rfl⟩) dX6_who_46
      · skip
        have c_9 : ¬ (1 ≤ x4.toInt ∧ x4.toInt ≤ 8) := uz_f er_7 c_9
        refine lv_iconst (v := (-1)) hx hb dX6_who_27 (by decide) ?_
        exact ur_iret C h hr hlocks (by rw [if_neg (fun z => by obtain ⟨z1, z2, z3, z4⟩ := z; first | exact absurd z1 (by assumption) | exact absurd z2 (by assumption) | exact absurd z3 (by assumption) | (rcases z4 with z4 | z4; exact absurd z4 (by assumption); exact absurd z4 (by assumption)))]; exact ⟨rfl, rfl⟩) dX6_who_28
set_option maxHeartbeats 1000000 in
set_option maxRecDepth 100000 in
theorem k_X6_copy (l : Launch) (E : uE) (hI : uI E) (M : uM) (x1 x2 x3 x4 x5 : Int32) (hsz : ∀ i, i < 4 → 0 ≤ (M.1 (243 + 2 * i) 2).toInt ∧ (M.1 (243 + 2 * i) 2).toInt ≤ 24) : Met l yX6_copy wsX6_copy ({ frames := 2, cells := 0, slots := 0, locals := 42 }) (va_Pc [.ref (E.2.1 0), .int x1, .int x2, .int x3, .int x4, .int x5] (uB E M)) (va_Qi (fun r u => if (0 ≤ x1.toInt ∧ x1.toInt ≤ 3) ∧ (0 ≤ x3.toInt ∧ x3.toInt ≤ 3) then (if M.1 (243 + 2 * (tn x1)) 0 = 0 ∨ M.1 (243 + 2 * (tn x3)) 0 = 0 then r = -11 ∧ M = u else if M.1 (243 + 2 * (tn x1)) 1 = M.1 (243 + 2 * (tn x3)) 1 then (if (0 ≤ x2.toInt ∧ 0 ≤ x5.toInt ∧ x2.toInt + x5.toInt ≤ (M.1 (243 + 2 * (tn x1)) 2).toInt) ∧ (0 ≤ x4.toInt ∧ 0 ≤ x5.toInt ∧ x4.toInt + x5.toInt ≤ (M.1 (243 + 2 * (tn x3)) 2).toInt) then u = uRowL M ((243 + 2 * (tn x3)) + 1) (va_cpy (M.2.1 ((243 + 2 * (tn x1)) + 1)) (M.2.1 ((243 + 2 * (tn x3)) + 1)) (tn x2) (tn x4) (tn x5)) ∧ r = x5 else r = -13 ∧ M = u) else r = -12 ∧ M = u) else r = -1 ∧ M = u) (uP E) (uA E)) 0 0 (uA E) := by
  have hin4 : ∀ w ∈ wsX40, w ∈ wsX6_copy := by decide +kernel
  have hin6 : ∀ w ∈ wsX60, w ∈ wsX6_copy := by decide +kernel
  refine u_start (cc := cX6_copy) (maxL := 8) (ret := (some .int)) hI (by decide) rfl (Nat.le_of_ble_eq_true rfl) ?_
  intro p_ e_ s_ m_ bl_ me_ c_ C hr hlocks h ls hl
  have hx := C.1.1
  have hb := C.1.2.1
  have hown : s_.vm.findClass RX6 = some m_.cls := C.1.2.2.2.1
  have hts := C.1.2.2.2.2
  have hl : lv_has ls 8 [(0, .ref (E.2.1 0)), (1, .int x1), (2, .int x2), (3, .int x3), (4, .int x4), (5, .int x5)] := hl
  refine lv_iload_n hx hb dX6_copy_0 rfl (lv_at hl 1 rfl) ?_
  refine ur_callSi C h (As := [.int x1]) (rest := []) (k_X6_isSheet l E hI M x1) (va_cwS 1 hts gX6_copy_X6_isSheet rfl rfl rfl (by decide +kernel) ⟨Nat.le_of_ble_eq_true rfl, Nat.le_of_ble_eq_true rfl⟩) rfl hl.1 rfl (Nat.le_of_ble_eq_true rfl) dX6_copy_1 (fun r_1 M_2 H locs hw_2 h => ?_)
  obtain ⟨hu, er_1⟩ := hw_2
  subst hu
  refine lv_if_eq (tgt := 14) hx hb dX6_copy_4 (by decide) (fun c_3 => ?_) (fun c_3 => ?_)
  · skip
    have c_3 : ¬ (0 ≤ x1.toInt ∧ x1.toInt ≤ 3) := uz_f er_1 c_3
    refine lv_iconst (v := (-1)) hx hb dX6_copy_14 (by decide) ?_
    exact ur_iret C h hr hlocks (by rw [if_neg (fun z => by first | exact absurd z (by assumption) | exact absurd z.1 (by assumption) | exact absurd z.2 (by assumption) | exact absurd z.2.1 (by assumption) | exact absurd z.2.2 (by assumption) | exact absurd z.2.2.1 (by assumption) | exact absurd z.2.2.2 (by assumption) | exact absurd z.2.2.2.1 (by assumption) | exact absurd z.2.2.2.2 (by assumption))]; exact ⟨rfl, rfl⟩) dX6_copy_15
  · skip
    have c_3 : 0 ≤ x1.toInt ∧ x1.toInt ≤ 3 := uz_t er_1 c_3
    refine lv_iload_n hx hb dX6_copy_7 rfl (lv_at hl 3 rfl) ?_
    refine ur_callSi C h (As := [.int x3]) (rest := []) (k_X6_isSheet l E hI M x3) (va_cwS 1 hts gX6_copy_X6_isSheet rfl rfl rfl (by decide +kernel) ⟨Nat.le_of_ble_eq_true rfl, Nat.le_of_ble_eq_true rfl⟩) rfl hl.1 rfl (Nat.le_of_ble_eq_true rfl) dX6_copy_8 (fun r_4 M_5 H locs hw_5 h => ?_)
    obtain ⟨hu, er_4⟩ := hw_5
    subst hu
    refine lv_if_ne (tgt := 16) hx hb dX6_copy_11 (by decide) (fun c_6 => ?_) (fun c_6 => ?_)
    · skip
      have c_6 : 0 ≤ x3.toInt ∧ x3.toInt ≤ 3 := uz_t er_4 c_6
      obtain ⟨hnx1, enx1⟩ := u_tn (x := x1) (n := 4) ⟨by omega, by omega⟩ (by omega)
      obtain ⟨hnx3, enx3⟩ := u_tn (x := x3) (n := 4) ⟨by omega, by omega⟩ (by omega)
      refine lv_aload_n hx hb dX6_copy_16 rfl (lv_at hl 0 rfl) ?_
      refine ur_get C h 0 (by decide) (uc_0 E _) (Cn := RX6) (T := TX6) (N := 6) rfl hin6 5 (by decide) (by decide +kernel) rfl dX6_copy_17 ?_
      refine lv_iload_n hx hb dX6_copy_20 rfl (lv_at hl 1 rfl) ?_
      refine ur_eq (y := nI (tn x1)) enx1 ?_
      refine ur_aald C h 242 4 (by decide) (uc_242 E _) rfl (tn x1) (by omega) (by decide) dX6_copy_21 ?_
      refine lv_astore (lv' := [(6, .ref (E.2.1 (243 + 2 * (tn x1)))), (0, .ref (E.2.1 0)), (1, .int x1), (2, .int x2), (3, .int x3), (4, .int x4), (5, .int x5)]) hx hb dX6_copy_22 hl (by decide) rfl (fun ls hl => ?_)
      refine lv_aload_n hx hb dX6_copy_24 rfl (lv_at hl 1 rfl) ?_
      refine ur_get C h 0 (by decide) (uc_0 E _) (Cn := RX6) (T := TX6) (N := 6) rfl hin6 5 (by decide) (by decide +kernel) rfl dX6_copy_25 ?_
      refine lv_iload_n hx hb dX6_copy_28 rfl (lv_at hl 4 rfl) ?_
      refine ur_eq (y := nI (tn x3)) enx3 ?_
      refine ur_aald C h 242 4 (by decide) (uc_242 E _) rfl (tn x3) (by omega) (by decide) dX6_copy_29 ?_
      refine lv_astore (lv' := [(7, .ref (E.2.1 (243 + 2 * (tn x3)))), (6, .ref (E.2.1 (243 + 2 * (tn x1)))), (0, .ref (E.2.1 0)), (1, .int x1), (2, .int x2), (3, .int x3), (4, .int x4), (5, .int x5)]) hx hb dX6_copy_30 hl (by decide) rfl (fun ls hl => ?_)
      refine lv_aload hx hb dX6_copy_32 (lv_at hl 1 rfl) ?_
      refine ur_get C h (243 + 2 * (tn x1)) (by have := uSh_lt (⟨tn x1, by omega, rfl⟩ : uSh (243 + 2 * (tn x1))); omega) (uc_s0 (⟨tn x1, by omega, rfl⟩ : uSh (243 + 2 * (tn x1))) E _) (Cn := RX4) (T := TX4) (N := 4) rfl hin4 0 (by decide) (by decide +kernel) rfl dX6_copy_34 ?_
      refine lv_if_eq (tgt := 48) hx hb dX6_copy_37 (by decide) (fun c_7 => ?_) (fun c_7 => ?_)
      · skip
        refine lv_bipush (v := (-11)) hx hb dX6_copy_48 (by decide) ?_
        exact ur_iret C h hr hlocks (by rw [if_pos ⟨c_3, c_6⟩, if_pos (by first | exact Or.inl c_7 | exact Or.inr c_7)]; exact ⟨rfl, rfl⟩) dX6_copy_50
      · skip
        refine lv_aload hx hb dX6_copy_40 (lv_at hl 0 rfl) ?_
        refine ur_get C h (243 + 2 * (tn x3)) (by have := uSh_lt (⟨tn x3, by omega, rfl⟩ : uSh (243 + 2 * (tn x3))); omega) (uc_s0 (⟨tn x3, by omega, rfl⟩ : uSh (243 + 2 * (tn x3))) E _) (Cn := RX4) (T := TX4) (N := 4) rfl hin4 0 (by decide) (by decide +kernel) rfl dX6_copy_42 ?_
        refine lv_if_ne (tgt := 51) hx hb dX6_copy_45 (by decide) (fun c_8 => ?_) (fun c_8 => ?_)
        · skip
          refine lv_aload hx hb dX6_copy_51 (lv_at hl 1 rfl) ?_
          refine ur_get C h (243 + 2 * (tn x1)) (by have := uSh_lt (⟨tn x1, by omega, rfl⟩ : uSh (243 + 2 * (tn x1))); omega) (uc_s0 (⟨tn x1, by omega, rfl⟩ : uSh (243 + 2 * (tn x1))) E _) (Cn := RX4) (T := TX4) (N := 4) rfl hin4 1 (by decide) (by decide +kernel) rfl dX6_copy_53 ?_
          refine lv_aload hx hb dX6_copy_56 (lv_at hl 0 rfl) ?_
          refine ur_get C h (243 + 2 * (tn x3)) (by have := uSh_lt (⟨tn x3, by omega, rfl⟩ : uSh (243 + 2 * (tn x3))); omega) (uc_s0 (⟨tn x3, by omega, rfl⟩ : uSh (243 + 2 * (tn x3))) E _) (Cn := RX4) (T := TX4) (N := 4) rfl hin4 1 (by decide) (by decide +kernel) rfl dX6_copy_58 ?_
          refine lv_icmp_eq (tgt := 67) hx hb dX6_copy_61 (by decide) (fun c_9 => ?_) (fun c_9 => ?_)
          · skip
            refine lv_aload hx hb dX6_copy_67 (lv_at hl 1 rfl) ?_
            refine lv_iload_n hx hb dX6_copy_69 rfl (lv_at hl 4 rfl) ?_
            refine lv_iload hx hb dX6_copy_70 (lv_at hl 7 rfl) ?_
            refine ur_callVi C h (k := (243 + 2 * (tn x1))) (As := [.int x2, .int x5]) (rest := []) (k_X4_reaches l E hI M (243 + 2 * (tn x1)) (⟨tn x1, by omega, rfl⟩ : uSh (243 + 2 * (tn x1))) x2 x5 (hsz (tn x1) (by omega))) (cwV 2 hts gX6_copy_X4_reaches rfl rfl rfl (by decide +kernel) ⟨Nat.le_of_ble_eq_true rfl, Nat.le_of_ble_eq_true rfl⟩) (by have := uSh_lt (⟨tn x1, by omega, rfl⟩ : uSh (243 + 2 * (tn x1))); omega) (uc_s0 (⟨tn x1, by omega, rfl⟩ : uSh (243 + 2 * (tn x1))) E _) (T := TX4) (N := 4) rfl rfl hl.1 rfl (Nat.le_of_ble_eq_true rfl) dX6_copy_72 (fun r_10 M_11 H locs hw_11 h => ?_)
            obtain ⟨hu, er_10⟩ := hw_11
            subst hu
            refine lv_if_eq (tgt := 90) hx hb dX6_copy_75 (by decide) (fun c_12 => ?_) (fun c_12 => ?_)
            · skip
              have c_12 : ¬ (0 ≤ x2.toInt ∧ 0 ≤ x5.toInt ∧ x2.toInt + x5.toInt ≤ (M.1 (243 + 2 * (tn x1)) 2).toInt) := uz_f er_10 c_12
              refine lv_bipush (v := (-13)) hx hb dX6_copy_90 (by decide) ?_
              exact ur_iret C h hr hlocks (by rw [if_pos ⟨c_3, c_6⟩, if_neg (fun z => by rcases z with z | z <;> first | exact c_7 z | exact c_8 z), if_pos c_9, if_neg (fun z => by first | exact absurd z (by assumption) | exact absurd z.1 (by assumption) | exact absurd z.2 (by assumption) | exact absurd z.2.1 (by assumption) | exact absurd z.2.2 (by assumption) | exact absurd z.2.2.1 (by assumption) | exact absurd z.2.2.2 (by assumption) | exact absurd z.2.2.2.1 (by assumption) | exact absurd z.2.2.2.2 (by assumption))]; exact ⟨rfl, rfl⟩) dX6_copy_92
            · skip
              have c_12 : 0 ≤ x2.toInt ∧ 0 ≤ x5.toInt ∧ x2.toInt + x5.toInt ≤ (M.1 (243 + 2 * (tn x1)) 2).toInt := uz_t er_10 c_12
              refine lv_aload hx hb dX6_copy_78 (lv_at hl 0 rfl) ?_
              refine lv_iload hx hb dX6_copy_80 (lv_at hl 6 rfl) ?_
              refine lv_iload hx hb dX6_copy_82 (lv_at hl 7 rfl) ?_
              refine ur_callVi C h (k := (243 + 2 * (tn x3))) (As := [.int x4, .int x5]) (rest := []) (k_X4_reaches l E hI M (243 + 2 * (tn x3)) (⟨tn x3, by omega, rfl⟩ : uSh (243 + 2 * (tn x3))) x4 x5 (hsz (tn x3) (by omega))) (cwV 2 hts gX6_copy_X4_reaches rfl rfl rfl (by decide +kernel) ⟨Nat.le_of_ble_eq_true rfl, Nat.le_of_ble_eq_true rfl⟩) (by have := uSh_lt (⟨tn x3, by omega, rfl⟩ : uSh (243 + 2 * (tn x3))); omega) (uc_s0 (⟨tn x3, by omega, rfl⟩ : uSh (243 + 2 * (tn x3))) E _) (T := TX4) (N := 4) rfl rfl hl.1 rfl (Nat.le_of_ble_eq_true rfl) dX6_copy_84 (fun r_13 M_14 H locs hw_14 h => ?_)
              obtain ⟨hu, er_13⟩ := hw_14
              subst hu
              refine lv_if_ne (tgt := 93) hx hb dX6_copy_87 (by decide) (fun c_15 => ?_) (fun c_15 => ?_)
              · skip
                have c_15 : 0 ≤ x4.toInt ∧ 0 ≤ x5.toInt ∧ x4.toInt + x5.toInt ≤ (M.1 (243 + 2 * (tn x3)) 2).toInt := uz_t er_13 c_15
                have hz1 := hsz (tn x1) (by omega)
                have hz3 := hsz (tn x3) (by omega)
                have hti := tn_int c_12.1
                have htj := tn_int c_15.1
                have htn := tn_int c_12.2.1
                obtain ⟨hnx2, enx2⟩ := u_tn (x := x2) (n := 25) ⟨c_12.1, by omega⟩ (by omega)
                obtain ⟨hnx4, enx4⟩ := u_tn (x := x4) (n := 25) ⟨c_15.1, by omega⟩ (by omega)
                obtain ⟨hnx5, enx5⟩ := u_tn (x := x5) (n := 25) ⟨c_12.2.1, by omega⟩ (by omega)
                refine lv_aload hx hb dX6_copy_93 (lv_at hl 1 rfl) ?_
                refine ur_get C h (243 + 2 * (tn x1)) (by have := uSh_lt (⟨tn x1, by omega, rfl⟩ : uSh (243 + 2 * (tn x1))); omega) (uc_s0 (⟨tn x1, by omega, rfl⟩ : uSh (243 + 2 * (tn x1))) E _) (Cn := RX4) (T := TX4) (N := 4) rfl hin4 3 (by decide) (by decide +kernel) rfl dX6_copy_95 ?_
                refine lv_iload_n hx hb dX6_copy_98 rfl (lv_at hl 4 rfl) ?_
                refine ur_eq (y := nI (tn x2)) enx2 ?_
                refine lv_aload hx hb dX6_copy_99 (lv_at hl 0 rfl) ?_
                refine ur_get C h (243 + 2 * (tn x3)) (by have := uSh_lt (⟨tn x3, by omega, rfl⟩ : uSh (243 + 2 * (tn x3))); omega) (uc_s0 (⟨tn x3, by omega, rfl⟩ : uSh (243 + 2 * (tn x3))) E _) (Cn := RX4) (T := TX4) (N := 4) rfl hin4 3 (by decide) (by decide +kernel) rfl dX6_copy_101 ?_
                refine lv_iload hx hb dX6_copy_104 (lv_at hl 6 rfl) ?_
                refine ur_eq (y := nI (tn x4)) enx4 ?_
                refine lv_iload hx hb dX6_copy_106 (lv_at hl 7 rfl) ?_
                refine ur_eq (y := nI (tn x5)) enx5 ?_
                refine ur_copyl C h hl.1 (by decide +kernel) (by decide +kernel) (by decide +kernel) (by decide +kernel) ((243 + 2 * (tn x1)) + 1) ((243 + 2 * (tn x3)) + 1) (by have := uSh_lt (⟨tn x1, by omega, rfl⟩ : uSh (243 + 2 * (tn x1))); omega) (by have := uSh_lt (⟨tn x3, by omega, rfl⟩ : uSh (243 + 2 * (tn x3))); omega) (uc_s1 (⟨tn x1, by omega, rfl⟩ : uSh (243 + 2 * (tn x1))) E _) (uc_s1 (⟨tn x3, by omega, rfl⟩ : uSh (243 + 2 * (tn x3))) E) (tn x2) (tn x4) (tn x5) (by omega) (by omega) (by decide) (by decide) (Nat.le_of_ble_eq_true rfl) (Nat.le_of_ble_eq_true rfl) dX6_copy_108 (fun M_16 H locs eM_16 h => ?_)
                refine lv_iload hx hb dX6_copy_111 (lv_at hl 7 rfl) ?_
                refine ur_eq (y := nI (tn x5)) enx5 ?_
                exact ur_iret C h hr hlocks (by rw [if_pos ⟨c_3, c_6⟩, if_neg (fun z => by rcases z with z | z <;> first | exact c_7 z | exact c_8 z), if_pos c_9, if_pos ⟨c_12, c_15⟩]; exact ⟨eM_16, enx5.symm⟩) dX6_copy_113
              · skip
                have c_15 : ¬ (0 ≤ x4.toInt ∧ 0 ≤ x5.toInt ∧ x4.toInt + x5.toInt ≤ (M.1 (243 + 2 * (tn x3)) 2).toInt) := uz_f er_13 c_15
                refine lv_bipush (v := (-13)) hx hb dX6_copy_90 (by decide) ?_
                exact ur_iret C h hr hlocks (by rw [if_pos ⟨c_3, c_6⟩, if_neg (fun z => by rcases z with z | z <;> first | exact c_7 z | exact c_8 z), if_pos c_9, if_neg (fun z => by first | exact absurd z (by assumption) | exact absurd z.1 (by assumption) | exact absurd z.2 (by assumption) | exact absurd z.2.1 (by assumption) | exact absurd z.2.2 (by assumption) | exact absurd z.2.2.1 (by assumption) | exact absurd z.2.2.2 (by assumption) | exact absurd z.2.2.2.1 (by assumption) | exact absurd z.2.2.2.2 (by assumption))]; exact ⟨rfl, rfl⟩) dX6_copy_92
          · skip
            refine lv_bipush (v := (-12)) hx hb dX6_copy_64 (by decide) ?_
            exact ur_iret C h hr hlocks (by rw [if_pos ⟨c_3, c_6⟩, if_neg (fun z => by rcases z with z | z <;> first | exact c_7 z | exact c_8 z), if_neg c_9]; exact ⟨rfl, rfl⟩) dX6_copy_66
        · skip
          refine lv_bipush (v := (-11)) hx hb dX6_copy_48 (by decide) ?_
          exact ur_iret C h hr hlocks (by rw [if_pos ⟨c_3, c_6⟩, if_pos (by first | exact Or.inl c_8 | exact Or.inr c_8)]; exact ⟨rfl, rfl⟩) dX6_copy_50
    · skip
      have c_6 : ¬ (0 ≤ x3.toInt ∧ x3.toInt ≤ 3) := uz_f er_4 c_6
      refine lv_iconst (v := (-1)) hx hb dX6_copy_14 (by decide) ?_
      exact ur_iret C h hr hlocks (by rw [if_neg (fun z => by first | exact absurd z (by assumption) | exact absurd z.1 (by assumption) | exact absurd z.2 (by assumption) | exact absurd z.2.1 (by assumption) | exact absurd z.2.2 (by assumption) | exact absurd z.2.2.1 (by assumption) | exact absurd z.2.2.2 (by assumption) | exact absurd z.2.2.2.1 (by assumption) | exact absurd z.2.2.2.2 (by assumption))]; exact ⟨rfl, rfl⟩) dX6_copy_15
