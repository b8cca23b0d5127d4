set_option maxHeartbeats 4000000 in
set_option maxRecDepth 100000 in
theorem k_X7_proof (l : Launch) (E : uE) (hI : uI E) (M : uM) (x1 : Int32) (n : Nat) (hn : M.1 252 0 = nI n) (hn6 : n ≤ 6) (nw : Nat) (hnw : M.1 252 1 = nI nw) (hnw6 : nw ≤ 6) (ht : ¬ M.1 252 3 = 0) : Met l yX7_proof wsX7_proof ({ frames := 6, cells := 0, slots := 0, locals := 147 }) (va_Pc [.ref (E.2.1 251), .int x1] (uB E M)) (va_Qi (fun r u => M = u ∧ r = if 0 ≤ x1.toInt ∧ x1.toInt ≤ 1000000 then pv (mProof M n nw x1 (2 ^ nw)) else -1) (uP E) (uA E)) 0 0 (uA E) := by
  have hin7 : ∀ w ∈ wsX70, w ∈ wsX7_proof := by decide +kernel
  refine u_start (cc := cX7_proof) (maxL := 7) (ret := (some .int)) hI (by decide) rfl (Nat.le_of_ble_eq_true rfl) ?_
  intro p_ e_ s_ m_ bl_ me_ c_ C hr hlocks h ls hl
  have hx := C.1.1
  have hb := C.1.2.1
  have hown : s_.vm.findClass RX7 = some m_.cls := C.1.2.2.2.1
  have hts := C.1.2.2.2.2
  have hl : lv_has ls 7 [(0, .ref (E.2.1 251)), (1, .int x1)] := hl
  refine lv_iload_n hx hb dX7_proof_0 rfl (lv_at hl 1 rfl) ?_
  refine lv_i2l (v := x1.toInt64) hx hb dX7_proof_1 rfl ?_
  refine lv_lconst (v := 0) hx hb dX7_proof_2 (by decide) ?_
  refine lv_ldc2 (v := 1000000) hx hb hown (hts (.constantLong RX7 179 1000000) (by decide +kernel)) dX7_proof_3 ?_
  refine ur_callSi C h (As := [.long x1.toInt64, .long 0, .long 1000000]) (rest := []) (k_X7_in l E hI M x1.toInt64 0 1000000) (va_cwS 3 hts gX7_proof_X7_in rfl rfl rfl (by decide +kernel) ⟨Nat.le_of_ble_eq_true rfl, Nat.le_of_ble_eq_true rfl⟩) rfl hl.1 rfl (Nat.le_of_ble_eq_true rfl) dX7_proof_6 (fun r_1 M_2 H locs hw_2 h => ?_)
  obtain ⟨hu, er_1⟩ := hw_2
  subst hu
  have er_1 : r_1 = if 0 ≤ x1.toInt ∧ x1.toInt ≤ 1000000 then 1 else 0 := u_in (x := x1.toInt) (u_w _) rfl rfl er_1
  refine lv_if_ne (tgt := 14) hx hb dX7_proof_9 (by decide) (fun c_3 => ?_) (fun c_3 => ?_)
  · skip
    have c_3 : 0 ≤ x1.toInt ∧ x1.toInt ≤ 1000000 := uz_t er_1 c_3
    refine lv_bipush (v := (-4)) hx hb dX7_proof_14 (by decide) ?_
    refine lv_istore_n (lv' := [(2, .int (-4)), (0, .ref (E.2.1 251)), (1, .int x1)]) hx hb dX7_proof_16 rfl hl (by decide) rfl (fun ls hl => ?_)
    refine lv_iconst (v := 0) hx hb dX7_proof_17 (by decide) ?_
    refine lv_istore_n (lv' := [(3, .int 0), (2, .int (-4)), (0, .ref (E.2.1 251)), (1, .int x1)]) hx hb dX7_proof_18 rfl hl (by decide) rfl (fun ls hl => ?_)
    have lp19 : ∀ (n19 : Nat) (i b0 : Nat), 2 ^ nw - i < n19 → i ≤ 2 ^ nw → b0 ≤ 64 → b0 = mProof M n nw x1 i → i ≤ 64 → ∀ (H : Heap) (locs : List Loc) (ls : Array Slot), uH E M s_ H locs → lv_has ls 7 [(3, .int (nI i)), (2, .int (pv b0)), (0, .ref (E.2.1 251)), (1, .int x1)] → W p_ l e_ ({ frames := 6, cells := 0, slots := 0, locals := 147 }) s_ m_ (List.toArray [.ref (E.2.1 251), .int x1]) bl_ me_ c_ H locs 0 0 (MQ bl_ (va_Qi (fun r u => M = u ∧ r = if 0 ≤ x1.toInt ∧ x1.toInt ≤ 1000000 then pv (mProof M n nw x1 (2 ^ nw)) else -1) (uP E) (uA E)) (List.toArray [.ref (E.2.1 251), .int x1]) s_ 0 0 (uA E)) (F0 m_ 19 ls []) := by
      intro n19
      induction n19 with
      | zero => intro i b0 hms; exact absurd hms (Nat.not_lt_zero _)
      | succ n19 ih19 =>
        intro i b0 hms19 hi hb0 hbb hi6 H locs ls h hl
        refine lv_iload_n hx hb dX7_proof_19 rfl (lv_at hl 0 rfl) ?_
        refine lv_iconst (v := 1) hx hb dX7_proof_20 (by decide) ?_
        refine lv_aload_n hx hb dX7_proof_21 rfl (lv_at hl 2 rfl) ?_
        refine ur_get C h 251 (by decide) (uc_251 E _) (Cn := RX7) (T := TX7) (N := 17) rfl hin7 0 (by decide) (by decide +kernel) rfl dX7_proof_22 ?_
        refine lv_iconst (v := 1) hx hb dX7_proof_25 (by decide) ?_
        refine ur_iald C h 252 (by decide) (uc_252 E _) (1) (by decide) (by decide) dX7_proof_26 ?_
        refine ur_eq (y := nI nw) (hnw) ?_
        refine lv_ishl hx hb dX7_proof_27 ?_
        refine ur_eq (y := nI (2 ^ nw)) (u_sh6 ⟨nw, by omega⟩) ?_
        have h2nw : 2 ^ nw ≤ 64 := (Nat.pow_le_pow_right (by decide) hnw6 : 2 ^ nw ≤ 2 ^ 6)
        refine lv_icmp_ge (tgt := 146) hx hb dX7_proof_28 (by decide) (fun c_4 => ?_) (fun c_4 => ?_)
        · skip
          have c_4 : (2 ^ nw) ≤ i := (nI_leI (a := (2 ^ nw)) (b := i) (by omega) (by omega)).mp c_4
          refine lv_iload_n hx hb dX7_proof_146 rfl (lv_at hl 1 rfl) ?_
          exact ur_iret C h hr hlocks (⟨rfl, by rw [if_pos (by assumption), hbb, show i = 2 ^ nw by omega]⟩) dX7_proof_147
        · skip
          have c_4 : ¬ (2 ^ nw) ≤ i := fun z => c_4 ((nI_leI (a := (2 ^ nw)) (b := i) (by omega) (by omega)).mpr z)
          refine lv_iload_n hx hb dX7_proof_31 rfl (lv_at hl 1 rfl) ?_
          refine lv_bipush (v := (-4)) hx hb dX7_proof_32 (by decide) ?_
          refine lv_icmp_eq (tgt := 48) hx hb dX7_proof_34 (by decide) (fun c_5 => ?_) (fun c_5 => ?_)
          · skip
            refine lv_iconst (v := 1) hx hb dX7_proof_48 (by decide) ?_
            refine lv_goto (tgt := 53) hx hb dX7_proof_49 (by decide) ?_
            refine lv_istore (lv' := [(4, .int 1), (3, .int (nI i)), (2, .int (pv b0)), (0, .ref (E.2.1 251)), (1, .int x1)]) hx hb dX7_proof_53 hl (by decide) rfl (fun ls hl => ?_)
            refine lv_iconst (v := 0) hx hb dX7_proof_55 (by decide) ?_
            refine lv_istore (lv' := [(5, .int 0), (4, .int 1), (3, .int (nI i)), (2, .int (pv b0)), (0, .ref (E.2.1 251)), (1, .int x1)]) hx hb dX7_proof_56 hl (by decide) rfl (fun ls hl => ?_)
            have lp58 : ∀ (n58 : Nat) (i5 : Nat) (q5 : Bool), n - i5 < n58 → i5 ≤ n → uAll (mPOk M nw x1 i) (decide (b0 = 64 ∨ ¬ pop b0 ≤ pop i)) i5 = q5 → ∀ (H : Heap) (locs : List Loc) (ls : Array Slot), uH E M s_ H locs → lv_has ls 7 [(5, .int (nI i5)), (4, .int (if q5 = true then 1 else 0)), (3, .int (nI i)), (2, .int (pv b0)), (0, .ref (E.2.1 251)), (1, .int x1)] → W p_ l e_ ({ frames := 6, cells := 0, slots := 0, locals := 147 }) s_ m_ (List.toArray [.ref (E.2.1 251), .int x1]) bl_ me_ c_ H locs 0 0 (MQ bl_ (va_Qi (fun r u => M = u ∧ r = if 0 ≤ x1.toInt ∧ x1.toInt ≤ 1000000 then pv (mProof M n nw x1 (2 ^ nw)) else -1) (uP E) (uA E)) (List.toArray [.ref (E.2.1 251), .int x1]) s_ 0 0 (uA E)) (F0 m_ 58 ls []) := by
              intro n58
              induction n58 with
              | zero => intro i5 q5 hms; exact absurd hms (Nat.not_lt_zero _)
              | succ n58 ih58 =>
                intro i5 q5 hms58 hi5 hq H locs ls h hl
                refine lv_iload hx hb dX7_proof_58 (lv_at hl 0 rfl) ?_
                refine lv_aload_n hx hb dX7_proof_60 rfl (lv_at hl 4 rfl) ?_
                refine ur_get C h 251 (by decide) (uc_251 E _) (Cn := RX7) (T := TX7) (N := 17) rfl hin7 0 (by decide) (by decide +kernel) rfl dX7_proof_61 ?_
                refine lv_iconst (v := 0) hx hb dX7_proof_64 (by decide) ?_
                refine ur_iald C h 252 (by decide) (uc_252 E _) (0) (by decide) (by decide) dX7_proof_65 ?_
                refine ur_eq (y := nI n) (hn) ?_
                refine lv_icmp_ge (tgt := 129) hx hb dX7_proof_66 (by decide) (fun c_6 => ?_) (fun c_6 => ?_)
                · skip
                  have c_6 : n ≤ i5 := (nI_leI (a := n) (b := i5) (by omega) (by omega)).mp c_6
                  refine lv_iload hx hb dX7_proof_129 (lv_at hl 1 rfl) ?_
                  refine lv_if_eq (tgt := 138) hx hb dX7_proof_131 (by decide) (fun c_7 => ?_) (fun c_7 => ?_)
                  · skip
                    have c_7 : ¬ (q5 = true) := uz_f rfl c_7
                    refine lv_iload_n hx hb dX7_proof_138 rfl (lv_at hl 3 rfl) ?_
                    refine lv_istore_n (lv' := [(2, .int (pv b0)), (5, .int (nI i5)), (4, .int (if q5 = true then 1 else 0)), (3, .int (nI i)), (0, .ref (E.2.1 251)), (1, .int x1)]) hx hb dX7_proof_139 rfl hl (by decide) rfl (fun ls hl => ?_)
                    refine lv_iinc (v := nI (i + 1)) (lv' := [(3, .int (nI (i + 1))), (2, .int (pv b0)), (5, .int (nI i5)), (4, .int (if q5 = true then 1 else 0)), (0, .ref (E.2.1 251)), (1, .int x1)]) hx hb dX7_proof_140 hl (k := 3) rfl (nI_add i 1) (by decide) rfl (fun ls hl => ?_)
                    refine lv_goto (tgt := 19) hx hb dX7_proof_143 (by decide) ?_
                    exact ih19  (i + 1) b0 (by omega) (by omega) (by omega) (by have hqf : q5 = false := (by first | exact Bool.eq_false_iff.mpr (by assumption) | (cases q5; rfl; contradiction)); rw [mProof, ← hbb, if_neg (by rw [show n = i5 + (n - i5) by omega, uAll_f (by rw [hq]; exact hqf) (n - i5)]; decide)]) (by omega) _ _ _ h (lv_sub hl [0, 1, 4, 5] rfl)
                  · skip
                    have c_7 : q5 = true := uz_t rfl c_7
                    refine lv_iload_n hx hb dX7_proof_134 rfl (lv_at hl 2 rfl) ?_
                    refine lv_goto (tgt := 139) hx hb dX7_proof_135 (by decide) ?_
                    refine ur_eq (y := pv i) (if_neg (show ¬ i = 64 by omega)).symm ?_
                    refine lv_istore_n (lv' := [(2, .int (pv i)), (5, .int (nI i5)), (4, .int (if q5 = true then 1 else 0)), (3, .int (nI i)), (0, .ref (E.2.1 251)), (1, .int x1)]) hx hb dX7_proof_139 rfl hl (by decide) rfl (fun ls hl => ?_)
                    refine lv_iinc (v := nI (i + 1)) (lv' := [(3, .int (nI (i + 1))), (2, .int (pv i)), (5, .int (nI i5)), (4, .int (if q5 = true then 1 else 0)), (0, .ref (E.2.1 251)), (1, .int x1)]) hx hb dX7_proof_140 hl (k := 3) rfl (nI_add i 1) (by decide) rfl (fun ls hl => ?_)
                    refine lv_goto (tgt := 19) hx hb dX7_proof_143 (by decide) ?_
                    exact ih19  (i + 1) i (by omega) (by omega) (by omega) (by rw [mProof, ← hbb, if_pos (by rw [← show i5 = n by omega, hq]; exact c_7)]) (by omega) _ _ _ h (lv_sub hl [0, 1, 4, 5] rfl)
                · skip
                  have c_6 : ¬ n ≤ i5 := fun z => c_6 ((nI_leI (a := n) (b := i5) (by omega) (by omega)).mpr z)
                  refine lv_iload hx hb dX7_proof_69 (lv_at hl 1 rfl) ?_
                  refine lv_if_eq (tgt := 129) hx hb dX7_proof_71 (by decide) (fun c_8 => ?_) (fun c_8 => ?_)
                  · skip
                    have c_8 : ¬ (q5 = true) := uz_f rfl c_8
                    refine lv_iload hx hb dX7_proof_129 (lv_at hl 1 rfl) ?_
                    refine lv_if_eq (tgt := 138) hx hb dX7_proof_131 (by decide) (fun c_9 => ?_) (fun c_9 => ?_)
                    · skip
                      have c_9 : ¬ (q5 = true) := uz_f rfl c_9
                      refine lv_iload_n hx hb dX7_proof_138 rfl (lv_at hl 3 rfl) ?_
                      refine lv_istore_n (lv' := [(2, .int (pv b0)), (5, .int (nI i5)), (4, .int (if q5 = true then 1 else 0)), (3, .int (nI i)), (0, .ref (E.2.1 251)), (1, .int x1)]) hx hb dX7_proof_139 rfl hl (by decide) rfl (fun ls hl => ?_)
                      refine lv_iinc (v := nI (i + 1)) (lv' := [(3, .int (nI (i + 1))), (2, .int (pv b0)), (5, .int (nI i5)), (4, .int (if q5 = true then 1 else 0)), (0, .ref (E.2.1 251)), (1, .int x1)]) hx hb dX7_proof_140 hl (k := 3) rfl (nI_add i 1) (by decide) rfl (fun ls hl => ?_)
                      refine lv_goto (tgt := 19) hx hb dX7_proof_143 (by decide) ?_
                      exact ih19  (i + 1) b0 (by omega) (by omega) (by omega) (by have hqf : q5 = false := (by first | exact Bool.eq_false_iff.mpr (by assumption) | (cases q5; rfl; contradiction)); rw [mProof, ← hbb, if_neg (by rw [show n = i5 + (n - i5) by omega, uAll_f (by rw [hq]; exact hqf) (n - i5)]; decide)]) (by omega) _ _ _ h (lv_sub hl [0, 1, 4, 5] rfl)
                    · skip
                      have c_9 : q5 = true := uz_t rfl c_9
                      refine lv_iload_n hx hb dX7_proof_134 rfl (lv_at hl 2 rfl) ?_
                      refine lv_goto (tgt := 139) hx hb dX7_proof_135 (by decide) ?_
                      refine ur_eq (y := pv i) (if_neg (show ¬ i = 64 by omega)).symm ?_
                      refine lv_istore_n (lv' := [(2, .int (pv i)), (5, .int (nI i5)), (4, .int (if q5 = true then 1 else 0)), (3, .int (nI i)), (0, .ref (E.2.1 251)), (1, .int x1)]) hx hb dX7_proof_139 rfl hl (by decide) rfl (fun ls hl => ?_)
                      refine lv_iinc (v := nI (i + 1)) (lv' := [(3, .int (nI (i + 1))), (2, .int (pv i)), (5, .int (nI i5)), (4, .int (if q5 = true then 1 else 0)), (0, .ref (E.2.1 251)), (1, .int x1)]) hx hb dX7_proof_140 hl (k := 3) rfl (nI_add i 1) (by decide) rfl (fun ls hl => ?_)
                      refine lv_goto (tgt := 19) hx hb dX7_proof_143 (by decide) ?_
                      exact ih19  (i + 1) i (by omega) (by omega) (by omega) (by exact absurd c_9 c_8) (by omega) _ _ _ h (lv_sub hl [0, 1, 4, 5] rfl)
                  · skip
                    have c_8 : q5 = true := uz_t rfl c_8
                    refine lv_aload_n hx hb dX7_proof_74 rfl (lv_at hl 4 rfl) ?_
                    refine lv_iload hx hb dX7_proof_75 (lv_at hl 0 rfl) ?_
                    refine lv_iload_n hx hb dX7_proof_77 rfl (lv_at hl 2 rfl) ?_
                    refine ur_callVi C h (k := 251) (As := [.int (nI i5), .int (nI i)]) (rest := []) (k_X7_passAll l E hI M i5 i (by omega) (by omega) nw hnw hnw6 ht) (cwV 2 hts gX7_proof_X7_passAll rfl rfl rfl (by decide +kernel) ⟨Nat.le_of_ble_eq_true rfl, Nat.le_of_ble_eq_true rfl⟩) (by decide) (uc_251 E _) (T := TX7) (N := 17) rfl rfl hl.1 rfl (Nat.le_of_ble_eq_true rfl) dX7_proof_78 (fun r_10 M_11 H locs hw_11 h => ?_)
                    obtain ⟨hu, er_10⟩ := hw_11
                    subst hu
                    refine ur_eq (y := mPA M nw i5 i) er_10 ?_
                    refine lv_istore (lv' := [(6, .int (mPA M nw i5 i)), (5, .int (nI i5)), (4, .int (if q5 = true then 1 else 0)), (3, .int (nI i)), (2, .int (pv b0)), (0, .ref (E.2.1 251)), (1, .int x1)]) hx hb dX7_proof_81 hl (by decide) rfl (fun ls hl => ?_)
                    refine lv_aload_n hx hb dX7_proof_83 rfl (lv_at hl 5 rfl) ?_
                    refine lv_iload hx hb dX7_proof_84 (lv_at hl 1 rfl) ?_
                    refine lv_iconst (v := 1) hx hb dX7_proof_86 (by decide) ?_
                    refine ur_callVi C h (k := 251) (As := [.int (nI i5), .int 1]) (rest := []) (k_X7_told l E hI M i5 1 (by omega)) (cwV 2 hts gX7_proof_X7_told rfl rfl rfl (by decide +kernel) ⟨Nat.le_of_ble_eq_true rfl, Nat.le_of_ble_eq_true rfl⟩) (by decide) (uc_251 E _) (T := TX7) (N := 17) rfl rfl hl.1 rfl (Nat.le_of_ble_eq_true rfl) dX7_proof_87 (fun r_12 M_13 H locs hw_13 h => ?_)
                    obtain ⟨hu, er_12⟩ := hw_13
                    subst hu
                    refine ur_eq (y := M.1 252 (7 + 10 * i5 + 1)) er_12 ?_
                    refine lv_if_ne (tgt := 107) hx hb dX7_proof_90 (by decide) (fun c_14 => ?_) (fun c_14 => ?_)
                    · skip
                      refine lv_iload hx hb dX7_proof_107 (lv_at hl 0 rfl) ?_
                      refine lv_ldc (v := 1000000) hx hb hown (hts (.constant RX7 59 1000000) (by decide +kernel)) dX7_proof_109 ?_
                      refine lv_iload_n hx hb dX7_proof_111 rfl (lv_at hl 6 rfl) ?_
                      refine lv_isub hx hb dX7_proof_112 ?_
                      refine lv_icmp_gt (tgt := 120) hx hb dX7_proof_113 (by decide) (fun c_15 => ?_) (fun c_15 => ?_)
                      · skip
                        refine lv_iconst (v := 0) hx hb dX7_proof_120 (by decide) ?_
                        refine lv_istore (lv' := [(4, .int 0), (6, .int (mPA M nw i5 i)), (5, .int (nI i5)), (3, .int (nI i)), (2, .int (pv b0)), (0, .ref (E.2.1 251)), (1, .int x1)]) hx hb dX7_proof_121 hl (by decide) rfl (fun ls hl => ?_)
                        refine lv_iinc (v := nI (i5 + 1)) (lv' := [(5, .int (nI (i5 + 1))), (4, .int 0), (6, .int (mPA M nw i5 i)), (3, .int (nI i)), (2, .int (pv b0)), (0, .ref (E.2.1 251)), (1, .int x1)]) hx hb dX7_proof_123 hl (k := 2) rfl (nI_add i5 1) (by decide) rfl (fun ls hl => ?_)
                        refine lv_goto (tgt := 58) hx hb dX7_proof_126 (by decide) ?_
                        exact ih58  (i5 + 1) false (by omega) (by omega) (by rw [uAll, hq, c_8, mPOk, if_neg c_14, decide_eq_true c_15]; rfl) _ _ _ h (lv_sub hl [0, 1, 3, 4, 5, 6] rfl)
                      · skip
                        refine lv_iconst (v := 1) hx hb dX7_proof_116 (by decide) ?_
                        refine lv_goto (tgt := 121) hx hb dX7_proof_117 (by decide) ?_
                        refine lv_istore (lv' := [(4, .int 1), (6, .int (mPA M nw i5 i)), (5, .int (nI i5)), (3, .int (nI i)), (2, .int (pv b0)), (0, .ref (E.2.1 251)), (1, .int x1)]) hx hb dX7_proof_121 hl (by decide) rfl (fun ls hl => ?_)
                        refine lv_iinc (v := nI (i5 + 1)) (lv' := [(5, .int (nI (i5 + 1))), (4, .int 1), (6, .int (mPA M nw i5 i)), (3, .int (nI i)), (2, .int (pv b0)), (0, .ref (E.2.1 251)), (1, .int x1)]) hx hb dX7_proof_123 hl (k := 2) rfl (nI_add i5 1) (by decide) rfl (fun ls hl => ?_)
                        refine lv_goto (tgt := 58) hx hb dX7_proof_126 (by decide) ?_
                        exact ih58  (i5 + 1) true (by omega) (by omega) (by rw [uAll, hq, c_8, mPOk, if_neg c_14, decide_eq_false c_15]; rfl) _ _ _ h (lv_sub hl [0, 1, 3, 4, 5, 6] rfl)
                    · skip
                      refine lv_iload hx hb dX7_proof_93 (lv_at hl 0 rfl) ?_
                      refine lv_iload_n hx hb dX7_proof_95 rfl (lv_at hl 6 rfl) ?_
                      refine lv_icmp_lt (tgt := 103) hx hb dX7_proof_96 (by decide) (fun c_16 => ?_) (fun c_16 => ?_)
                      · skip
                        refine lv_iconst (v := 0) hx hb dX7_proof_103 (by decide) ?_
                        refine lv_goto (tgt := 121) hx hb dX7_proof_104 (by decide) ?_
                        refine lv_istore (lv' := [(4, .int 0), (6, .int (mPA M nw i5 i)), (5, .int (nI i5)), (3, .int (nI i)), (2, .int (pv b0)), (0, .ref (E.2.1 251)), (1, .int x1)]) hx hb dX7_proof_121 hl (by decide) rfl (fun ls hl => ?_)
                        refine lv_iinc (v := nI (i5 + 1)) (lv' := [(5, .int (nI (i5 + 1))), (4, .int 0), (6, .int (mPA M nw i5 i)), (3, .int (nI i)), (2, .int (pv b0)), (0, .ref (E.2.1 251)), (1, .int x1)]) hx hb dX7_proof_123 hl (k := 2) rfl (nI_add i5 1) (by decide) rfl (fun ls hl => ?_)
                        refine lv_goto (tgt := 58) hx hb dX7_proof_126 (by decide) ?_
                        exact ih58  (i5 + 1) false (by omega) (by omega) (by rw [uAll, hq, c_8, mPOk, if_pos c_14, decide_eq_true c_16]; rfl) _ _ _ h (lv_sub hl [0, 1, 3, 4, 5, 6] rfl)
                      · skip
                        refine lv_iconst (v := 1) hx hb dX7_proof_99 (by decide) ?_
                        refine lv_goto (tgt := 121) hx hb dX7_proof_100 (by decide) ?_
                        refine lv_istore (lv' := [(4, .int 1), (6, .int (mPA M nw i5 i)), (5, .int (nI i5)), (3, .int (nI i)), (2, .int (pv b0)), (0, .ref (E.2.1 251)), (1, .int x1)]) hx hb dX7_proof_121 hl (by decide) rfl (fun ls hl => ?_)
                        refine lv_iinc (v := nI (i5 + 1)) (lv' := [(5, .int (nI (i5 + 1))), (4, .int 1), (6, .int (mPA M nw i5 i)), (3, .int (nI i)), (2, .int (pv b0)), (0, .ref (E.2.1 251)), (1, .int x1)]) hx hb dX7_proof_123 hl (k := 2) rfl (nI_add i5 1) (by decide) rfl (fun ls hl => ?_)
                        refine lv_goto (tgt := 58) hx hb dX7_proof_126 (by decide) ?_
                        exact ih58  (i5 + 1) true (by omega) (by omega) (by rw [uAll, hq, c_8, mPOk, if_pos c_14, decide_eq_false c_16]; rfl) _ _ _ h (lv_sub hl [0, 1, 3, 4, 5, 6] rfl)
            exact lp58 _ 0 true (Nat.lt_succ_self _) (by omega) (by first | exact decide_eq_true (Or.inl ((pv_iff hb0).mp c_5)) | exact decide_eq_true (Or.inr (by omega))) _ _ _ h (lv_sub hl [0, 1, 2, 3, 4, 5] rfl)
          · skip
            have hbn : ¬ b0 = 64 := fun z => c_5 ((pv_iff hb0).mpr z)
            refine lv_iload_n hx hb dX7_proof_37 rfl (lv_at hl 0 rfl) ?_
            refine ur_callSi C h (As := [.int (nI i)]) (rest := []) (k_X7_many l E hI M i (by omega)) (va_cwS 1 hts gX7_proof_X7_many rfl rfl rfl (by decide +kernel) ⟨Nat.le_of_ble_eq_true rfl, Nat.le_of_ble_eq_true rfl⟩) rfl hl.1 rfl (Nat.le_of_ble_eq_true rfl) dX7_proof_38 (fun r_17 M_18 H locs hw_18 h => ?_)
            obtain ⟨hu, er_17⟩ := hw_18
            subst hu
            refine ur_eq (y := nI (pop i)) er_17 ?_
            have hpr_17 : pop i ≤ 6 := pop6 (by omega)
            refine lv_iload_n hx hb dX7_proof_41 rfl (lv_at hl 1 rfl) ?_
            refine ur_eq (y := nI b0) (if_neg hbn) ?_
            refine ur_callSi C h (As := [.int (nI b0)]) (rest := [.int (nI (pop i))]) (k_X7_many l E hI M b0 (by omega)) (va_cwS 1 hts gX7_proof_X7_many rfl rfl rfl (by decide +kernel) ⟨Nat.le_of_ble_eq_true rfl, Nat.le_of_ble_eq_true rfl⟩) rfl hl.1 rfl (Nat.le_of_ble_eq_true rfl) dX7_proof_42 (fun r_19 M_20 H locs hw_20 h => ?_)
            obtain ⟨hu, er_19⟩ := hw_20
            subst hu
            refine ur_eq (y := nI (pop b0)) er_19 ?_
            have hpr_19 : pop b0 ≤ 6 := pop6 (by omega)
            refine lv_icmp_ge (tgt := 52) hx hb dX7_proof_45 (by decide) (fun c_21 => ?_) (fun c_21 => ?_)
            · skip
              have c_21 : (pop b0) ≤ (pop i) := (nI_leI (a := (pop b0)) (b := (pop i)) (by omega) (by omega)).mp c_21
              refine lv_iconst (v := 0) hx hb dX7_proof_52 (by decide) ?_
              refine lv_istore (lv' := [(4, .int 0), (3, .int (nI i)), (2, .int (pv b0)), (0, .ref (E.2.1 251)), (1, .int x1)]) hx hb dX7_proof_53 hl (by decide) rfl (fun ls hl => ?_)
              refine lv_iconst (v := 0) hx hb dX7_proof_55 (by decide) ?_
              refine lv_istore (lv' := [(5, .int 0), (4, .int 0), (3, .int (nI i)), (2, .int (pv b0)), (0, .ref (E.2.1 251)), (1, .int x1)]) hx hb dX7_proof_56 hl (by decide) rfl (fun ls hl => ?_)
              have lp58 : ∀ (n58 : Nat) (i5 : Nat) (q5 : Bool), n - i5 < n58 → i5 ≤ n → uAll (mPOk M nw x1 i) (decide (b0 = 64 ∨ ¬ pop b0 ≤ pop i)) i5 = q5 → ∀ (H : Heap) (locs : List Loc) (ls : Array Slot), uH E M s_ H locs → lv_has ls 7 [(5, .int (nI i5)), (4, .int (if q5 = true then 1 else 0)), (3, .int (nI i)), (2, .int (pv b0)), (0, .ref (E.2.1 251)), (1, .int x1)] → W p_ l e_ ({ frames := 6, cells := 0, slots := 0, locals := 147 }) s_ m_ (List.toArray [.ref (E.2.1 251), .int x1]) bl_ me_ c_ H locs 0 0 (MQ bl_ (va_Qi (fun r u => M = u ∧ r = if 0 ≤ x1.toInt ∧ x1.toInt ≤ 1000000 then pv (mProof M n nw x1 (2 ^ nw)) else -1) (uP E) (uA E)) (List.toArray [.ref (E.2.1 251), .int x1]) s_ 0 0 (uA E)) (F0 m_ 58 ls []) := by
                intro n58
                induction n58 with
                | zero => intro i5 q5 hms; exact absurd hms (Nat.not_lt_zero _)
                | succ n58 ih58 =>
                  intro i5 q5 hms58 hi5 hq H locs ls h hl
                  refine lv_iload hx hb dX7_proof_58 (lv_at hl 0 rfl) ?_
                  refine lv_aload_n hx hb dX7_proof_60 rfl (lv_at hl 4 rfl) ?_
                  refine ur_get C h 251 (by decide) (uc_251 E _) (Cn := RX7) (T := TX7) (N := 17) rfl hin7 0 (by decide) (by decide +kernel) rfl dX7_proof_61 ?_
                  refine lv_iconst (v := 0) hx hb dX7_proof_64 (by decide) ?_
                  refine ur_iald C h 252 (by decide) (uc_252 E _) (0) (by decide) (by decide) dX7_proof_65 ?_
                  refine ur_eq (y := nI n) (hn) ?_
                  refine lv_icmp_ge (tgt := 129) hx hb dX7_proof_66 (by decide) (fun c_22 => ?_) (fun c_22 => ?_)
                  · skip
                    have c_22 : n ≤ i5 := (nI_leI (a := n) (b := i5) (by omega) (by omega)).mp c_22
                    refine lv_iload hx hb dX7_proof_129 (lv_at hl 1 rfl) ?_
                    refine lv_if_eq (tgt := 138) hx hb dX7_proof_131 (by decide) (fun c_23 => ?_) (fun c_23 => ?_)
                    · skip
                      have c_23 : ¬ (q5 = true) := uz_f rfl c_23
                      refine lv_iload_n hx hb dX7_proof_138 rfl (lv_at hl 3 rfl) ?_
                      refine lv_istore_n (lv' := [(2, .int (pv b0)), (5, .int (nI i5)), (4, .int (if q5 = true then 1 else 0)), (3, .int (nI i)), (0, .ref (E.2.1 251)), (1, .int x1)]) hx hb dX7_proof_139 rfl hl (by decide) rfl (fun ls hl => ?_)
                      refine lv_iinc (v := nI (i + 1)) (lv' := [(3, .int (nI (i + 1))), (2, .int (pv b0)), (5, .int (nI i5)), (4, .int (if q5 = true then 1 else 0)), (0, .ref (E.2.1 251)), (1, .int x1)]) hx hb dX7_proof_140 hl (k := 3) rfl (nI_add i 1) (by decide) rfl (fun ls hl => ?_)
                      refine lv_goto (tgt := 19) hx hb dX7_proof_143 (by decide) ?_
                      exact ih19  (i + 1) b0 (by omega) (by omega) (by omega) (by have hqf : q5 = false := (by first | exact Bool.eq_false_iff.mpr (by assumption) | (cases q5; rfl; contradiction)); rw [mProof, ← hbb, if_neg (by rw [show n = i5 + (n - i5) by omega, uAll_f (by rw [hq]; exact hqf) (n - i5)]; decide)]) (by omega) _ _ _ h (lv_sub hl [0, 1, 4, 5] rfl)
                    · skip
                      have c_23 : q5 = true := uz_t rfl c_23
                      refine lv_iload_n hx hb dX7_proof_134 rfl (lv_at hl 2 rfl) ?_
                      refine lv_goto (tgt := 139) hx hb dX7_proof_135 (by decide) ?_
                      refine ur_eq (y := pv i) (if_neg (show ¬ i = 64 by omega)).symm ?_
                      refine lv_istore_n (lv' := [(2, .int (pv i)), (5, .int (nI i5)), (4, .int (if q5 = true then 1 else 0)), (3, .int (nI i)), (0, .ref (E.2.1 251)), (1, .int x1)]) hx hb dX7_proof_139 rfl hl (by decide) rfl (fun ls hl => ?_)
                      refine lv_iinc (v := nI (i + 1)) (lv' := [(3, .int (nI (i + 1))), (2, .int (pv i)), (5, .int (nI i5)), (4, .int (if q5 = true then 1 else 0)), (0, .ref (E.2.1 251)), (1, .int x1)]) hx hb dX7_proof_140 hl (k := 3) rfl (nI_add i 1) (by decide) rfl (fun ls hl => ?_)
                      refine lv_goto (tgt := 19) hx hb dX7_proof_143 (by decide) ?_
                      exact ih19  (i + 1) i (by omega) (by omega) (by omega) (by rw [mProof, ← hbb, if_pos (by rw [← show i5 = n by omega, hq]; exact c_23)]) (by omega) _ _ _ h (lv_sub hl [0, 1, 4, 5] rfl)
                  · skip
                    have c_22 : ¬ n ≤ i5 := fun z => c_22 ((nI_leI (a := n) (b := i5) (by omega) (by omega)).mpr z)
                    refine lv_iload hx hb dX7_proof_69 (lv_at hl 1 rfl) ?_
                    refine lv_if_eq (tgt := 129) hx hb dX7_proof_71 (by decide) (fun c_24 => ?_) (fun c_24 => ?_)
                    · skip
                      have c_24 : ¬ (q5 = true) := uz_f rfl c_24
                      refine lv_iload hx hb dX7_proof_129 (lv_at hl 1 rfl) ?_
                      refine lv_if_eq (tgt := 138) hx hb dX7_proof_131 (by decide) (fun c_25 => ?_) (fun c_25 => ?_)
                      · skip
                        have c_25 : ¬ (q5 = true) := uz_f rfl c_25
                        refine lv_iload_n hx hb dX7_proof_138 rfl (lv_at hl 3 rfl) ?_
                        refine lv_istore_n (lv' := [(2, .int (pv b0)), (5, .int (nI i5)), (4, .int (if q5 = true then 1 else 0)), (3, .int (nI i)), (0, .ref (E.2.1 251)), (1, .int x1)]) hx hb dX7_proof_139 rfl hl (by decide) rfl (fun ls hl => ?_)
                        refine lv_iinc (v := nI (i + 1)) (lv' := [(3, .int (nI (i + 1))), (2, .int (pv b0)), (5, .int (nI i5)), (4, .int (if q5 = true then 1 else 0)), (0, .ref (E.2.1 251)), (1, .int x1)]) hx hb dX7_proof_140 hl (k := 3) rfl (nI_add i 1) (by decide) rfl (fun ls hl => ?_)
                        refine lv_goto (tgt := 19) hx hb dX7_proof_143 (by decide) ?_
                        exact ih19  (i + 1) b0 (by omega) (by omega) (by omega) (by have hqf : q5 = false := (by first | exact Bool.eq_false_iff.mpr (by assumption) | (cases q5; rfl; contradiction)); rw [mProof, ← hbb, if_neg (by rw [show n = i5 + (n - i5) by omega, uAll_f (by rw [hq]; exact hqf) (n - i5)]; decide)]) (by omega) _ _ _ h (lv_sub hl [0, 1, 4, 5] rfl)
                      · skip
                        have c_25 : q5 = true := uz_t rfl c_25
                        refine lv_iload_n hx hb dX7_proof_134 rfl (lv_at hl 2 rfl) ?_
                        refine lv_goto (tgt := 139) hx hb dX7_proof_135 (by decide) ?_
                        refine ur_eq (y := pv i) (if_neg (show ¬ i = 64 by omega)).symm ?_
                        refine lv_istore_n (lv' := [(2, .int (pv i)), (5, .int (nI i5)), (4, .int (if q5 = true then 1 else 0)), (3, .int (nI i)), (0, .ref (E.2.1 251)), (1, .int x1)]) hx hb dX7_proof_139 rfl hl (by decide) rfl (fun ls hl => ?_)
                        refine lv_iinc (v := nI (i + 1)) (lv' := [(3, .int (nI (i + 1))), (2, .int (pv i)), (5, .int (nI i5)), (4, .int (if q5 = true then 1 else 0)), (0, .ref (E.2.1 251)), (1, .int x1)]) hx hb dX7_proof_140 hl (k := 3) rfl (nI_add i 1) (by decide) rfl (fun ls hl => ?_)
                        refine lv_goto (tgt := 19) hx hb dX7_proof_143 (by decide) ?_
                        exact ih19  (i + 1) i (by omega) (by omega) (by omega) (by exact absurd c_25 c_24) (by omega) _ _ _ h (lv_sub hl [0, 1, 4, 5] rfl)
                    · skip
                      have c_24 : q5 = true := uz_t rfl c_24
                      refine lv_aload_n hx hb dX7_proof_74 rfl (lv_at hl 4 rfl) ?_
                      refine lv_iload hx hb dX7_proof_75 (lv_at hl 0 rfl) ?_
                      refine lv_iload_n hx hb dX7_proof_77 rfl (lv_at hl 2 rfl) ?_
                      refine ur_callVi C h (k := 251) (As := [.int (nI i5), .int (nI i)]) (rest := []) (k_X7_passAll l E hI M i5 i (by omega) (by omega) nw hnw hnw6 ht) (cwV 2 hts gX7_proof_X7_passAll rfl rfl rfl (by decide +kernel) ⟨Nat.le_of_ble_eq_true rfl, Nat.le_of_ble_eq_true rfl⟩) (by decide) (uc_251 E _) (T := TX7) (N := 17) rfl rfl hl.1 rfl (Nat.le_of_ble_eq_true rfl) dX7_proof_78 (fun r_26 M_27 H locs hw_27 h => ?_)
                      obtain ⟨hu, er_26⟩ := hw_27
                      subst hu
                      refine ur_eq (y := mPA M nw i5 i) er_26 ?_
                      refine lv_istore (lv' := [(6, .int (mPA M nw i5 i)), (5, .int (nI i5)), (4, .int (if q5 = true then 1 else 0)), (3, .int (nI i)), (2, .int (pv b0)), (0, .ref (E.2.1 251)), (1, .int x1)]) hx hb dX7_proof_81 hl (by decide) rfl (fun ls hl => ?_)
                      refine lv_aload_n hx hb dX7_proof_83 rfl (lv_at hl 5 rfl) ?_
                      refine lv_iload hx hb dX7_proof_84 (lv_at hl 1 rfl) ?_
                      refine lv_iconst (v := 1) hx hb dX7_proof_86 (by decide) ?_
                      refine ur_callVi C h (k := 251) (As := [.int (nI i5), .int 1]) (rest := []) (k_X7_told l E hI M i5 1 (by omega)) (cwV 2 hts gX7_proof_X7_told rfl rfl rfl (by decide +kernel) ⟨Nat.le_of_ble_eq_true rfl, Nat.le_of_ble_eq_true rfl⟩) (by decide) (uc_251 E _) (T := TX7) (N := 17) rfl rfl hl.1 rfl (Nat.le_of_ble_eq_true rfl) dX7_proof_87 (fun r_28 M_29 H locs hw_29 h => ?_)
                      obtain ⟨hu, er_28⟩ := hw_29
                      subst hu
                      refine ur_eq (y := M.1 252 (7 + 10 * i5 + 1)) er_28 ?_
                      refine lv_if_ne (tgt := 107) hx hb dX7_proof_90 (by decide) (fun c_30 => ?_) (fun c_30 => ?_)
                      · skip
                        refine lv_iload hx hb dX7_proof_107 (lv_at hl 0 rfl) ?_
                        refine lv_ldc (v := 1000000) hx hb hown (hts (.constant RX7 59 1000000) (by decide +kernel)) dX7_proof_109 ?_
                        refine lv_iload_n hx hb dX7_proof_111 rfl (lv_at hl 6 rfl) ?_
                        refine lv_isub hx hb dX7_proof_112 ?_
                        refine lv_icmp_gt (tgt := 120) hx hb dX7_proof_113 (by decide) (fun c_31 => ?_) (fun c_31 => ?_)
                        · skip
                          refine lv_iconst (v := 0) hx hb dX7_proof_120 (by decide) ?_
                          refine lv_istore (lv' := [(4, .int 0), (6, .int (mPA M nw i5 i)), (5, .int (nI i5)), (3, .int (nI i)), (2, .int (pv b0)), (0, .ref (E.2.1 251)), (1, .int x1)]) hx hb dX7_proof_121 hl (by decide) rfl (fun ls hl => ?_)
                          refine lv_iinc (v := nI (i5 + 1)) (lv' := [(5, .int (nI (i5 + 1))), (4, .int 0), (6, .int (mPA M nw i5 i)), (3, .int (nI i)), (2, .int (pv b0)), (0, .ref (E.2.1 251)), (1, .int x1)]) hx hb dX7_proof_123 hl (k := 2) rfl (nI_add i5 1) (by decide) rfl (fun ls hl => ?_)
                          refine lv_goto (tgt := 58) hx hb dX7_proof_126 (by decide) ?_
                          exact ih58  (i5 + 1) false (by omega) (by omega) (by rw [uAll, hq, c_24, mPOk, if_neg c_30, decide_eq_true c_31]; rfl) _ _ _ h (lv_sub hl [0, 1, 3, 4, 5, 6] rfl)
                        · skip
                          refine lv_iconst (v := 1) hx hb dX7_proof_116 (by decide) ?_
                          refine lv_goto (tgt := 121) hx hb dX7_proof_117 (by decide) ?_
                          refine lv_istore (lv' := [(4, .int 1), (6, .int (mPA M nw i5 i)), (5, .int (nI i5)), (3, .int (nI i)), (2, .int (pv b0)), (0, .ref (E.2.1 251)), (1, .int x1)]) hx hb dX7_proof_121 hl (by decide) rfl (fun ls hl => ?_)
                          refine lv_iinc (v := nI (i5 + 1)) (lv' := [(5, .int (nI (i5 + 1))), (4, .int 1), (6, .int (mPA M nw i5 i)), (3, .int (nI i)), (2, .int (pv b0)), (0, .ref (E.2.1 251)), (1, .int x1)]) hx hb dX7_proof_123 hl (k := 2) rfl (nI_add i5 1) (by decide) rfl (fun ls hl => ?_)
                          refine lv_goto (tgt := 58) hx hb dX7_proof_126 (by decide) ?_
                          exact ih58  (i5 + 1) true (by omega) (by omega) (by rw [uAll, hq, c_24, mPOk, if_neg c_30, decide_eq_false c_31]; rfl) _ _ _ h (lv_sub hl [0, 1, 3, 4, 5, 6] rfl)
                      · skip
                        refine lv_iload hx hb dX7_proof_93 (lv_at hl 0 rfl) ?_
                        refine lv_iload_n hx hb dX7_proof_95 rfl (lv_at hl 6 rfl) ?_
                        refine lv_icmp_lt (tgt := 103) hx hb dX7_proof_96 (by decide) (fun c_32 => ?_) (fun c_32 => ?_)
                        · skip
                          refine lv_iconst (v := 0) hx hb dX7_proof_103 (by decide) ?_
                          refine lv_goto (tgt := 121) hx hb dX7_proof_104 (by decide) ?_
                          refine lv_istore (lv' := [(4, .int 0), (6, .int (mPA M nw i5 i)), (5, .int (nI i5)), (3, .int (nI i)), (2, .int (pv b0)), (0, .ref (E.2.1 251)), (1, .int x1)]) hx hb dX7_proof_121 hl (by decide) rfl (fun ls hl => ?_)
                          refine lv_iinc (v := nI (i5 + 1)) (lv' := [(5, .int (nI (i5 + 1))), (4, .int 0), (6, .int (mPA M nw i5 i)), (3, .int (nI i)), (2, .int (pv b0)), (0, .ref (E.2.1 251)), (1, .int x1)]) hx hb dX7_proof_123 hl (k := 2) rfl (nI_add i5 1) (by decide) rfl (fun ls hl => ?_)
                          refine lv_goto (tgt := 58) hx hb dX7_proof_126 (by decide) ?_
                          exact ih58  (i5 + 1) false (by omega) (by omega) (by rw [uAll, hq, c_24, mPOk, if_pos c_30, decide_eq_true c_32]; rfl) _ _ _ h (lv_sub hl [0, 1, 3, 4, 5, 6] rfl)
                        · skip
                          refine lv_iconst (v := 1) hx hb dX7_proof_99 (by decide) ?_
                          refine lv_goto (tgt := 121) hx hb dX7_proof_100 (by decide) ?_
                          refine lv_istore (lv' := [(4, .int 1), (6, .int (mPA M nw i5 i)), (5, .int (nI i5)), (3, .int (nI i)), (2, .int (pv b0)), (0, .ref (E.2.1 251)), (1, .int x1)]) hx hb dX7_proof_121 hl (by decide) rfl (fun ls hl => ?_)
                          refine lv_iinc (v := nI (i5 + 1)) (lv' := [(5, .int (nI (i5 + 1))), (4, .int 1), (6, .int (mPA M nw i5 i)), (3, .int (nI i)), (2, .int (pv b0)), (0, .ref (E.2.1 251)), (1, .int x1)]) hx hb dX7_proof_123 hl (k := 2) rfl (nI_add i5 1) (by decide) rfl (fun ls hl => ?_)
                          refine lv_goto (tgt := 58) hx hb dX7_proof_126 (by decide) ?_
                          exact ih58  (i5 + 1) true (by omega) (by omega) (by rw [uAll, hq, c_24, mPOk, if_pos c_30, decide_eq_false c_32]; rfl) _ _ _ h (lv_sub hl [0, 1, 3, 4, 5, 6] rfl)
              exact lp58 _ 0 false (Nat.lt_succ_self _) (by omega) (by exact decide_eq_false (fun z => by rcases z with z | z; exact hbn z; omega)) _ _ _ h (lv_sub hl [0, 1, 2, 3, 4, 5] rfl)
            · skip
              have c_21 : ¬ (pop b0) ≤ (pop i) := fun z => c_21 ((nI_leI (a := (pop b0)) (b := (pop i)) (by omega) (by omega)).mpr z)
              refine lv_iconst (v := 1) hx hb dX7_proof_48 (by decide) ?_
              refine lv_goto (tgt := 53) hx hb dX7_proof_49 (by decide) ?_
              refine lv_istore (lv' := [(4, .int 1), (3, .int (nI i)), (2, .int (pv b0)), (0, .ref (E.2.1 251)), (1, .int x1)]) hx hb dX7_proof_53 hl (by decide) rfl (fun ls hl => ?_)
              refine lv_iconst (v := 0) hx hb dX7_proof_55 (by decide) ?_
              refine lv_istore (lv' := [(5, .int 0), (4, .int 1), (3, .int (nI i)), (2, .int (pv b0)), (0, .ref (E.2.1 251)), (1, .int x1)]) hx hb dX7_proof_56 hl (by decide) rfl (fun ls hl => ?_)
              have lp58 : ∀ (n58 : Nat) (i5 : Nat) (q5 : Bool), n - i5 < n58 → i5 ≤ n → uAll (mPOk M nw x1 i) (decide (b0 = 64 ∨ ¬ pop b0 ≤ pop i)) i5 = q5 → ∀ (H : Heap) (locs : List Loc) (ls : Array Slot), uH E M s_ H locs → lv_has ls 7 [(5, .int (nI i5)), (4, .int (if q5 = true then 1 else 0)), (3, .int (nI i)), (2, .int (pv b0)), (0, .ref (E.2.1 251)), (1, .int x1)] → W p_ l e_ ({ frames := 6, cells := 0, slots := 0, locals := 147 }) s_ m_ (List.toArray [.ref (E.2.1 251), .int x1]) bl_ me_ c_ H locs 0 0 (MQ bl_ (va_Qi (fun r u => M = u ∧ r = if 0 ≤ x1.toInt ∧ x1.toInt ≤ 1000000 then pv (mProof M n nw x1 (2 ^ nw)) else -1) (uP E) (uA E)) (List.toArray [.ref (E.2.1 251), .int x1]) s_ 0 0 (uA E)) (F0 m_ 58 ls []) := by
                intro n58
                induction n58 with
                | zero => intro i5 q5 hms; exact absurd hms (Nat.not_lt_zero _)
                | succ n58 ih58 =>
                  intro i5 q5 hms58 hi5 hq H locs ls h hl
                  refine lv_iload hx hb dX7_proof_58 (lv_at hl 0 rfl) ?_
                  refine lv_aload_n hx hb dX7_proof_60 rfl (lv_at hl 4 rfl) ?_
                  refine ur_get C h 251 (by decide) (uc_251 E _) (Cn := RX7) (T := TX7) (N := 17) rfl hin7 0 (by decide) (by decide +kernel) rfl dX7_proof_61 ?_
                  refine lv_iconst (v := 0) hx hb dX7_proof_64 (by decide) ?_
                  refine ur_iald C h 252 (by decide) (uc_252 E _) (0) (by decide) (by decide) dX7_proof_65 ?_
                  refine ur_eq (y := nI n) (hn) ?_
                  refine lv_icmp_ge (tgt := 129) hx hb dX7_proof_66 (by decide) (fun c_33 => ?_) (fun c_33 => ?_)
                  · skip
                    have c_33 : n ≤ i5 := (nI_leI (a := n) (b := i5) (by omega) (by omega)).mp c_33
                    refine lv_iload hx hb dX7_proof_129 (lv_at hl 1 rfl) ?_
                    refine lv_if_eq (tgt := 138) hx hb dX7_proof_131 (by decide) (fun c_34 => ?_) (fun c_34 => ?_)
                    · skip
                      have c_34 : ¬ (q5 = true) := uz_f rfl c_34
                      refine lv_iload_n hx hb dX7_proof_138 rfl (lv_at hl 3 rfl) ?_
                      refine lv_istore_n (lv' := [(2, .int (pv b0)), (5, .int (nI i5)), (4, .int (if q5 = true then 1 else 0)), (3, .int (nI i)), (0, .ref (E.2.1 251)), (1, .int x1)]) hx hb dX7_proof_139 rfl hl (by decide) rfl (fun ls hl => ?_)
                      refine lv_iinc (v := nI (i + 1)) (lv' := [(3, .int (nI (i + 1))), (2, .int (pv b0)), (5, .int (nI i5)), (4, .int (if q5 = true then 1 else 0)), (0, .ref (E.2.1 251)), (1, .int x1)]) hx hb dX7_proof_140 hl (k := 3) rfl (nI_add i 1) (by decide) rfl (fun ls hl => ?_)
                      refine lv_goto (tgt := 19) hx hb dX7_proof_143 (by decide) ?_
                      exact ih19  (i + 1) b0 (by omega) (by omega) (by omega) (by have hqf : q5 = false := (by first | exact Bool.eq_false_iff.mpr (by assumption) | (cases q5; rfl; contradiction)); rw [mProof, ← hbb, if_neg (by rw [show n = i5 + (n - i5) by omega, uAll_f (by rw [hq]; exact hqf) (n - i5)]; decide)]) (by omega) _ _ _ h (lv_sub hl [0, 1, 4, 5] rfl)
                    · skip
                      have c_34 : q5 = true := uz_t rfl c_34
                      refine lv_iload_n hx hb dX7_proof_134 rfl (lv_at hl 2 rfl) ?_
                      refine lv_goto (tgt := 139) hx hb dX7_proof_135 (by decide) ?_
                      refine ur_eq (y := pv i) (if_neg (show ¬ i = 64 by omega)).symm ?_
                      refine lv_istore_n (lv' := [(2, .int (pv i)), (5, .int (nI i5)), (4, .int (if q5 = true then 1 else 0)), (3, .int (nI i)), (0, .ref (E.2.1 251)), (1, .int x1)]) hx hb dX7_proof_139 rfl hl (by decide) rfl (fun ls hl => ?_)
                      refine lv_iinc (v := nI (i + 1)) (lv' := [(3, .int (nI (i + 1))), (2, .int (pv i)), (5, .int (nI i5)), (4, .int (if q5 = true then 1 else 0)), (0, .ref (E.2.1 251)), (1, .int x1)]) hx hb dX7_proof_140 hl (k := 3) rfl (nI_add i 1) (by decide) rfl (fun ls hl => ?_)
                      refine lv_goto (tgt := 19) hx hb dX7_proof_143 (by decide) ?_
                      exact ih19  (i + 1) i (by omega) (by omega) (by omega) (by rw [mProof, ← hbb, if_pos (by rw [← show i5 = n by omega, hq]; exact c_34)]) (by omega) _ _ _ h (lv_sub hl [0, 1, 4, 5] rfl)
                  · skip
                    have c_33 : ¬ n ≤ i5 := fun z => c_33 ((nI_leI (a := n) (b := i5) (by omega) (by omega)).mpr z)
                    refine lv_iload hx hb dX7_proof_69 (lv_at hl 1 rfl) ?_
                    refine lv_if_eq (tgt := 129) hx hb dX7_proof_71 (by decide) (fun c_35 => ?_) (fun c_35 => ?_)
                    · skip
                      have c_35 : ¬ (q5 = true) := uz_f rfl c_35
                      refine lv_iload hx hb dX7_proof_129 (lv_at hl 1 rfl) ?_
                      refine lv_if_eq (tgt := 138) hx hb dX7_proof_131 (by decide) (fun c_36 => ?_) (fun c_36 => ?_)
                      · skip
                        have c_36 : ¬ (q5 = true) := uz_f rfl c_36
                        refine lv_iload_n hx hb dX7_proof_138 rfl (lv_at hl 3 rfl) ?_
                        refine lv_istore_n (lv' := [(2, .int (pv b0)), (5, .int (nI i5)), (4, .int (if q5 = true then 1 else 0)), (3, .int (nI i)), (0, .ref (E.2.1 251)), (1, .int x1)]) hx hb dX7_proof_139 rfl hl (by decide) rfl (fun ls hl => ?_)
                        refine lv_iinc (v := nI (i + 1)) (lv' := [(3, .int (nI (i + 1))), (2, .int (pv b0)), (5, .int (nI i5)), (4, .int (if q5 = true then 1 else 0)), (0, .ref (E.2.1 251)), (1, .int x1)]) hx hb dX7_proof_140 hl (k := 3) rfl (nI_add i 1) (by decide) rfl (fun ls hl => ?_)
                        refine lv_goto (tgt := 19) hx hb dX7_proof_143 (by decide) ?_
                        exact ih19  (i + 1) b0 (by omega) (by omega) (by omega) (by have hqf : q5 = false := (by first | exact Bool.eq_false_iff.mpr (by assumption) | (cases q5; rfl; contradiction)); rw [mProof, ← hbb, if_neg (by rw [show n = i5 + (n - i5) by omega, uAll_f (by rw [hq]; exact hqf) (n - i5)]; decide)]) (by omega) _ _ _ h (lv_sub hl [0, 1, 4, 5] rfl)
                      · skip
                        have c_36 : q5 = true := uz_t rfl c_36
                        refine lv_iload_n hx hb dX7_proof_134 rfl (lv_at hl 2 rfl) ?_
                        refine lv_goto (tgt := 139) hx hb dX7_proof_135 (by decide) ?_
                        refine ur_eq (y := pv i) (if_neg (show ¬ i = 64 by omega)).symm ?_
                        refine lv_istore_n (lv' := [(2, .int (pv i)), (5, .int (nI i5)), (4, .int (if q5 = true then 1 else 0)), (3, .int (nI i)), (0, .ref (E.2.1 251)), (1, .int x1)]) hx hb dX7_proof_139 rfl hl (by decide) rfl (fun ls hl => ?_)
                        refine lv_iinc (v := nI (i + 1)) (lv' := [(3, .int (nI (i + 1))), (2, .int (pv i)), (5, .int (nI i5)), (4, .int (if q5 = true then 1 else 0)), (0, .ref (E.2.1 251)), (1, .int x1)]) hx hb dX7_proof_140 hl (k := 3) rfl (nI_add i 1) (by decide) rfl (fun ls hl => ?_)
                        refine lv_goto (tgt := 19) hx hb dX7_proof_143 (by decide) ?_
                        exact ih19  (i + 1) i (by omega) (by omega) (by omega) (by exact absurd c_36 c_35) (by omega) _ _ _ h (lv_sub hl [0, 1, 4, 5] rfl)
                    · skip
                      have c_35 : q5 = true := uz_t rfl c_35
                      refine lv_aload_n hx hb dX7_proof_74 rfl (lv_at hl 4 rfl) ?_
                      refine lv_iload hx hb dX7_proof_75 (lv_at hl 0 rfl) ?_
                      refine lv_iload_n hx hb dX7_proof_77 rfl (lv_at hl 2 rfl) ?_
                      refine ur_callVi C h (k := 251) (As := [.int (nI i5), .int (nI i)]) (rest := []) (k_X7_passAll l E hI M i5 i (by omega) (by omega) nw hnw hnw6 ht) (cwV 2 hts gX7_proof_X7_passAll rfl rfl rfl (by decide +kernel) ⟨Nat.le_of_ble_eq_true rfl, Nat.le_of_ble_eq_true rfl⟩) (by decide) (uc_251 E _) (T := TX7) (N := 17) rfl rfl hl.1 rfl (Nat.le_of_ble_eq_true rfl) dX7_proof_78 (fun r_37 M_38 H locs hw_38 h => ?_)
                      obtain ⟨hu, er_37⟩ := hw_38
                      subst hu
                      refine ur_eq (y := mPA M nw i5 i) er_37 ?_
                      refine lv_istore (lv' := [(6, .int (mPA M nw i5 i)), (5, .int (nI i5)), (4, .int (if q5 = true then 1 else 0)), (3, .int (nI i)), (2, .int (pv b0)), (0, .ref (E.2.1 251)), (1, .int x1)]) hx hb dX7_proof_81 hl (by decide) rfl (fun ls hl => ?_)
                      refine lv_aload_n hx hb dX7_proof_83 rfl (lv_at hl 5 rfl) ?_
                      refine lv_iload hx hb dX7_proof_84 (lv_at hl 1 rfl) ?_
                      refine lv_iconst (v := 1) hx hb dX7_proof_86 (by decide) ?_
                      refine ur_callVi C h (k := 251) (As := [.int (nI i5), .int 1]) (rest := []) (k_X7_told l E hI M i5 1 (by omega)) (cwV 2 hts gX7_proof_X7_told rfl rfl rfl (by decide +kernel) ⟨Nat.le_of_ble_eq_true rfl, Nat.le_of_ble_eq_true rfl⟩) (by decide) (uc_251 E _) (T := TX7) (N := 17) rfl rfl hl.1 rfl (Nat.le_of_ble_eq_true rfl) dX7_proof_87 (fun r_39 M_40 H locs hw_40 h => ?_)
                      obtain ⟨hu, er_39⟩ := hw_40
                      subst hu
                      refine ur_eq (y := M.1 252 (7 + 10 * i5 + 1)) er_39 ?_
                      refine lv_if_ne (tgt := 107) hx hb dX7_proof_90 (by decide) (fun c_41 => ?_) (fun c_41 => ?_)
                      · skip
                        refine lv_iload hx hb dX7_proof_107 (lv_at hl 0 rfl) ?_
                        refine lv_ldc (v := 1000000) hx hb hown (hts (.constant RX7 59 1000000) (by decide +kernel)) dX7_proof_109 ?_
                        refine lv_iload_n hx hb dX7_proof_111 rfl (lv_at hl 6 rfl) ?_
                        refine lv_isub hx hb dX7_proof_112 ?_
                        refine lv_icmp_gt (tgt := 120) hx hb dX7_proof_113 (by decide) (fun c_42 => ?_) (fun c_42 => ?_)
                        · skip
                          refine lv_iconst (v := 0) hx hb dX7_proof_120 (by decide) ?_
                          refine lv_istore (lv' := [(4, .int 0), (6, .int (mPA M nw i5 i)), (5, .int (nI i5)), (3, .int (nI i)), (2, .int (pv b0)), (0, .ref (E.2.1 251)), (1, .int x1)]) hx hb dX7_proof_121 hl (by decide) rfl (fun ls hl => ?_)
                          refine lv_iinc (v := nI (i5 + 1)) (lv' := [(5, .int (nI (i5 + 1))), (4, .int 0), (6, .int (mPA M nw i5 i)), (3, .int (nI i)), (2, .int (pv b0)), (0, .ref (E.2.1 251)), (1, .int x1)]) hx hb dX7_proof_123 hl (k := 2) rfl (nI_add i5 1) (by decide) rfl (fun ls hl => ?_)
                          refine lv_goto (tgt := 58) hx hb dX7_proof_126 (by decide) ?_
                          exact ih58  (i5 + 1) false (by omega) (by omega) (by rw [uAll, hq, c_35, mPOk, if_neg c_41, decide_eq_true c_42]; rfl) _ _ _ h (lv_sub hl [0, 1, 3, 4, 5, 6] rfl)
                        · skip
                          refine lv_iconst (v := 1) hx hb dX7_proof_116 (by decide) ?_
                          refine lv_goto (tgt := 121) hx hb dX7_proof_117 (by decide) ?_
                          refine lv_istore (lv' := [(4, .int 1), (6, .int (mPA M nw i5 i)), (5, .int (nI i5)), (3, .int (nI i)), (2, .int (pv b0)), (0, .ref (E.2.1 251)), (1, .int x1)]) hx hb dX7_proof_121 hl (by decide) rfl (fun ls hl => ?_)
                          refine lv_iinc (v := nI (i5 + 1)) (lv' := [(5, .int (nI (i5 + 1))), (4, .int 1), (6, .int (mPA M nw i5 i)), (3, .int (nI i)), (2, .int (pv b0)), (0, .ref (E.2.1 251)), (1, .int x1)]) hx hb dX7_proof_123 hl (k := 2) rfl (nI_add i5 1) (by decide) rfl (fun ls hl => ?_)
                          refine lv_goto (tgt := 58) hx hb dX7_proof_126 (by decide) ?_
                          exact ih58  (i5 + 1) true (by omega) (by omega) (by rw [uAll, hq, c_35, mPOk, if_neg c_41, decide_eq_false c_42]; rfl) _ _ _ h (lv_sub hl [0, 1, 3, 4, 5, 6] rfl)
                      · skip
                        refine lv_iload hx hb dX7_proof_93 (lv_at hl 0 rfl) ?_
                        refine lv_iload_n hx hb dX7_proof_95 rfl (lv_at hl 6 rfl) ?_
                        refine lv_icmp_lt (tgt := 103) hx hb dX7_proof_96 (by decide) (fun c_43 => ?_) (fun c_43 => ?_)
                        · skip
                          refine lv_iconst (v := 0) hx hb dX7_proof_103 (by decide) ?_
                          refine lv_goto (tgt := 121) hx hb dX7_proof_104 (by decide) ?_
                          refine lv_istore (lv' := [(4, .int 0), (6, .int (mPA M nw i5 i)), (5, .int (nI i5)), (3, .int (nI i)), (2, .int (pv b0)), (0, .ref (E.2.1 251)), (1, .int x1)]) hx hb dX7_proof_121 hl (by decide) rfl (fun ls hl => ?_)
                          refine lv_iinc (v := nI (i5 + 1)) (lv' := [(5, .int (nI (i5 + 1))), (4, .int 0), (6, .int (mPA M nw i5 i)), (3, .int (nI i)), (2, .int (pv b0)), (0, .ref (E.2.1 251)), (1, .int x1)]) hx hb dX7_proof_123 hl (k := 2) rfl (nI_add i5 1) (by decide) rfl (fun ls hl => ?_)
                          refine lv_goto (tgt := 58) hx hb dX7_proof_126 (by decide) ?_
                          exact ih58  (i5 + 1) false (by omega) (by omega) (by rw [uAll, hq, c_35, mPOk, if_pos c_41, decide_eq_true c_43]; rfl) _ _ _ h (lv_sub hl [0, 1, 3, 4, 5, 6] rfl)
                        · skip
                          refine lv_iconst (v := 1) hx hb dX7_proof_99 (by decide) ?_
                          refine lv_goto (tgt := 121) hx hb dX7_proof_100 (by decide) ?_
                          refine lv_istore (lv' := [(4, .int 1), (6, .int (mPA M nw i5 i)), (5, .int (nI i5)), (3, .int (nI i)), (2, .int (pv b0)), (0, .ref (E.2.1 251)), (1, .int x1)]) hx hb dX7_proof_121 hl (by decide) rfl (fun ls hl => ?_)
                          refine lv_iinc (v := nI (i5 + 1)) (lv' := [(5, .int (nI (i5 + 1))), (4, .int 1), (6, .int (mPA M nw i5 i)), (3, .int (nI i)), (2, .int (pv b0)), (0, .ref (E.2.1 251)), (1, .int x1)]) hx hb dX7_proof_123 hl (k := 2) rfl (nI_add i5 1) (by decide) rfl (fun ls hl => ?_)
                          refine lv_goto (tgt := 58) hx hb dX7_proof_126 (by decide) ?_
                          exact ih58  (i5 + 1) true (by omega) (by omega) (by rw [uAll, hq, c_35, mPOk, if_pos c_41, decide_eq_false c_43]; rfl) _ _ _ h (lv_sub hl [0, 1, 3, 4, 5, 6] rfl)
              exact lp58 _ 0 true (Nat.lt_succ_self _) (by omega) (by first | exact decide_eq_true (Or.inl ((pv_iff hb0).mp c_21)) | exact decide_eq_true (Or.inr (by omega))) _ _ _ h (lv_sub hl [0, 1, 2, 3, 4, 5] rfl)
    exact lp19 _ 0 64 (Nat.lt_succ_self _) (Nat.zero_le _) (by omega) rfl (by omega) _ _ _ h (lv_sub hl [0, 1, 2, 3] rfl)
  · skip
    have c_3 : ¬ (0 ≤ x1.toInt ∧ x1.toInt ≤ 1000000) := uz_f er_1 c_3
    refine lv_iconst (v := (-1)) hx hb dX7_proof_12 (by decide) ?_
    exact ur_iret C h hr hlocks (⟨rfl, by rw [if_neg c_3]⟩) dX7_proof_13
