set_option maxHeartbeats 4000000 in
set_option maxRecDepth 100000 in
theorem k_X7_speaker (l : Launch) (E : uE) (hI : uI E) (M : uM) (x1 x2 x3 : Int32) (n : Nat) (hn : M.1 252 0 = nI n) (hn6 : n ≤ 6) : Met l yX7_speaker wsX7_speaker ({ frames := 1, cells := 0, slots := 0, locals := 25 }) (va_Pc [.ref (E.2.1 251), .int x1, .int x2, .int x3] (uB E M)) (va_Qi (fun r u => if (0 ≤ x1.toInt ∧ x1.toInt ≤ 4) ∧ (0 ≤ x2.toInt ∧ x2.toInt ≤ 1) ∧ (0 ≤ x3.toInt ∧ x3.toInt ≤ 9) then (if n = 6 then r = -3 ∧ M = u else u = mSpk M n x1 x2 x3 ∧ r = u.1 252 0 - 1) else r = -1 ∧ M = u) (uP E) (uA E)) 0 0 (uA E) := by
  have hin7 : ∀ w ∈ wsX70, w ∈ wsX7_speaker := by decide +kernel
  refine u_start (cc := cX7_speaker) (maxL := 6) (ret := (some .int)) hI (by decide) rfl (Nat.le_of_ble_eq_true rfl) ?_
  intro p_ e_ s_ m_ bl_ me_ c_ C hr hlocks h ls hl
  have hx := C.1.1
  have hb := C.1.2.1
  have hown : s_.vm.findClass RX7 = some m_.cls := C.1.2.2.2.1
  have hts := C.1.2.2.2.2
  have hl : lv_has ls 6 [(0, .ref (E.2.1 251)), (1, .int x1), (2, .int x2), (3, .int x3)] := hl
  refine lv_iload_n hx hb dX7_speaker_0 rfl (lv_at hl 1 rfl) ?_
  refine lv_i2l (v := x1.toInt64) hx hb dX7_speaker_1 rfl ?_
  refine lv_lconst (v := 0) hx hb dX7_speaker_2 (by decide) ?_
  refine lv_ldc2 (v := 4) hx hb hown (hts (.constantLong RX7 78 4) (by decide +kernel)) dX7_speaker_3 ?_
  refine ur_callSi C h (As := [.long x1.toInt64, .long 0, .long 4]) (rest := []) (k_X7_in l E hI M x1.toInt64 0 4) (va_cwS 3 hts gX7_speaker_X7_in rfl rfl rfl (by decide +kernel) ⟨Nat.le_of_ble_eq_true rfl, Nat.le_of_ble_eq_true rfl⟩) rfl hl.1 rfl (Nat.le_of_ble_eq_true rfl) dX7_speaker_6 (fun r_1 M_2 H locs hw_2 h => ?_)
  obtain ⟨hu, er_1⟩ := hw_2
  subst hu
  have er_1 : r_1 = if 0 ≤ x1.toInt ∧ x1.toInt ≤ 4 then 1 else 0 := u_in (x := x1.toInt) (u_w _) rfl rfl er_1
  refine lv_if_eq (tgt := 34) hx hb dX7_speaker_9 (by decide) (fun c_3 => ?_) (fun c_3 => ?_)
  · skip
    have c_3 : ¬ (0 ≤ x1.toInt ∧ x1.toInt ≤ 4) := uz_f er_1 c_3
    refine lv_iconst (v := (-1)) hx hb dX7_speaker_34 (by decide) ?_
    exact ur_iret C h hr hlocks (by rw [if_neg (by omega)]; exact ⟨rfl, rfl⟩) dX7_speaker_35
  · skip
    have c_3 : 0 ≤ x1.toInt ∧ x1.toInt ≤ 4 := uz_t er_1 c_3
    refine lv_iload_n hx hb dX7_speaker_12 rfl (lv_at hl 2 rfl) ?_
    refine lv_i2l (v := x2.toInt64) hx hb dX7_speaker_13 rfl ?_
    refine lv_lconst (v := 0) hx hb dX7_speaker_14 (by decide) ?_
    refine lv_lconst (v := 1) hx hb dX7_speaker_15 (by decide) ?_
    refine ur_callSi C h (As := [.long x2.toInt64, .long 0, .long 1]) (rest := []) (k_X7_in l E hI M x2.toInt64 0 1) (va_cwS 3 hts gX7_speaker_X7_in rfl rfl rfl (by decide +kernel) ⟨Nat.le_of_ble_eq_true rfl, Nat.le_of_ble_eq_true rfl⟩) rfl hl.1 rfl (Nat.le_of_ble_eq_true rfl) dX7_speaker_16 (fun r_4 M_5 H locs hw_5 h => ?_)
    obtain ⟨hu, er_4⟩ := hw_5
    subst hu
    have er_4 : r_4 = if 0 ≤ x2.toInt ∧ x2.toInt ≤ 1 then 1 else 0 := u_in (x := x2.toInt) (u_w _) rfl rfl er_4
    refine lv_if_eq (tgt := 34) hx hb dX7_speaker_19 (by decide) (fun c_6 => ?_) (fun c_6 => ?_)
    · skip
      have c_6 : ¬ (0 ≤ x2.toInt ∧ x2.toInt ≤ 1) := uz_f er_4 c_6
      refine lv_iconst (v := (-1)) hx hb dX7_speaker_34 (by decide) ?_
      exact ur_iret C h hr hlocks (by rw [if_neg (by omega)]; exact ⟨rfl, rfl⟩) dX7_speaker_35
    · skip
      have c_6 : 0 ≤ x2.toInt ∧ x2.toInt ≤ 1 := uz_t er_4 c_6
      refine lv_iload_n hx hb dX7_speaker_22 rfl (lv_at hl 3 rfl) ?_
      refine lv_i2l (v := x3.toInt64) hx hb dX7_speaker_23 rfl ?_
      refine lv_lconst (v := 0) hx hb dX7_speaker_24 (by decide) ?_
      refine lv_ldc2 (v := 9) hx hb hown (hts (.constantLong RX7 80 9) (by decide +kernel)) dX7_speaker_25 ?_
      refine ur_callSi C h (As := [.long x3.toInt64, .long 0, .long 9]) (rest := []) (k_X7_in l E hI M x3.toInt64 0 9) (va_cwS 3 hts gX7_speaker_X7_in rfl rfl rfl (by decide +kernel) ⟨Nat.le_of_ble_eq_true rfl, Nat.le_of_ble_eq_true rfl⟩) rfl hl.1 rfl (Nat.le_of_ble_eq_true rfl) dX7_speaker_28 (fun r_7 M_8 H locs hw_8 h => ?_)
      obtain ⟨hu, er_7⟩ := hw_8
      subst hu
      have er_7 : r_7 = if 0 ≤ x3.toInt ∧ x3.toInt ≤ 9 then 1 else 0 := u_in (x := x3.toInt) (u_w _) rfl rfl er_7
      refine lv_if_ne (tgt := 36) hx hb dX7_speaker_31 (by decide) (fun c_9 => ?_) (fun c_9 => ?_)
      · skip
        have c_9 : 0 ≤ x3.toInt ∧ x3.toInt ≤ 9 := uz_t er_7 c_9
        refine lv_aload_n hx hb dX7_speaker_36 rfl (lv_at hl 0 rfl) ?_
        refine ur_get C h 251 (by decide) (uc_251 E _) (Cn := RX7) (T := TX7) (N := 17) rfl hin7 0 (by decide) (by decide +kernel) rfl dX7_speaker_37 ?_
        refine lv_iconst (v := 0) hx hb dX7_speaker_40 (by decide) ?_
        refine ur_iald C h 252 (by decide) (uc_252 E _) (0) (by decide) (by decide) dX7_speaker_41 ?_
        refine ur_eq (y := nI n) (hn) ?_
        refine lv_bipush (v := 6) hx hb dX7_speaker_42 (by decide) ?_
        refine lv_icmp_ne (tgt := 50) hx hb dX7_speaker_44 (by decide) (fun c_10 => ?_) (fun c_10 => ?_)
        · skip
          have c_10 : ¬ n = 6 := fun z => c_10 ((nI_eq (a := n) (b := 6) (by omega) (by omega)).mpr z)
          refine lv_bipush (v := 7) hx hb dX7_speaker_50 (by decide) ?_
          refine lv_bipush (v := 10) hx hb dX7_speaker_52 (by decide) ?_
          refine lv_aload_n hx hb dX7_speaker_54 rfl (lv_at hl 0 rfl) ?_
          refine ur_get C h 251 (by decide) (uc_251 E _) (Cn := RX7) (T := TX7) (N := 17) rfl hin7 0 (by decide) (by decide +kernel) rfl dX7_speaker_55 ?_
          refine lv_iconst (v := 0) hx hb dX7_speaker_58 (by decide) ?_
          refine ur_iald C h 252 (by decide) (uc_252 E _) (0) (by decide) (by decide) dX7_speaker_59 ?_
          refine ur_eq (y := nI n) (hn) ?_
          refine lv_imul hx hb dX7_speaker_60 ?_
          refine ur_eq (y := nI (10 * n)) (pk_mul 10 n) ?_
          refine lv_iadd hx hb dX7_speaker_61 ?_
          refine ur_eq (y := nI (7 + 10 * n)) (nI_add 7 (10 * n)) ?_
          refine lv_istore (lv' := [(4, .int (nI (7 + 10 * n))), (0, .ref (E.2.1 251)), (1, .int x1), (2, .int x2), (3, .int x3)]) hx hb dX7_speaker_62 hl (by decide) rfl (fun ls hl => ?_)
          refine lv_aload_n hx hb dX7_speaker_64 rfl (lv_at hl 1 rfl) ?_
          refine ur_get C h 251 (by decide) (uc_251 E _) (Cn := RX7) (T := TX7) (N := 17) rfl hin7 0 (by decide) (by decide +kernel) rfl dX7_speaker_65 ?_
          refine lv_iload hx hb dX7_speaker_68 (lv_at hl 0 rfl) ?_
          refine lv_iload_n hx hb dX7_speaker_70 rfl (lv_at hl 2 rfl) ?_
          refine ur_iast C h 252 (by decide) (uc_252 E) (7 + 10 * n) (by omega) (by decide) dX7_speaker_71 (fun M_11 H locs eM_11 h => ?_)
          refine lv_aload_n hx hb dX7_speaker_72 rfl (lv_at hl 1 rfl) ?_
          refine ur_get C h 251 (by decide) (uc_251 E _) (Cn := RX7) (T := TX7) (N := 17) rfl hin7 0 (by decide) (by decide +kernel) rfl dX7_speaker_73 ?_
          refine lv_iload hx hb dX7_speaker_76 (lv_at hl 0 rfl) ?_
          refine lv_iconst (v := 1) hx hb dX7_speaker_78 (by decide) ?_
          refine lv_iadd hx hb dX7_speaker_79 ?_
          refine ur_eq (y := nI (7 + 10 * n + 1)) (nI_add (7 + 10 * n) 1) ?_
          refine lv_iload_n hx hb dX7_speaker_80 rfl (lv_at hl 3 rfl) ?_
          refine ur_iast C h 252 (by decide) (uc_252 E) (7 + 10 * n + 1) (by omega) (by decide) dX7_speaker_81 (fun M_12 H locs eM_12 h => ?_)
          refine lv_aload_n hx hb dX7_speaker_82 rfl (lv_at hl 1 rfl) ?_
          refine ur_get C h 251 (by decide) (uc_251 E _) (Cn := RX7) (T := TX7) (N := 17) rfl hin7 0 (by decide) (by decide +kernel) rfl dX7_speaker_83 ?_
          refine lv_iload hx hb dX7_speaker_86 (lv_at hl 0 rfl) ?_
          refine lv_iconst (v := 2) hx hb dX7_speaker_88 (by decide) ?_
          refine lv_iadd hx hb dX7_speaker_89 ?_
          refine ur_eq (y := nI (7 + 10 * n + 2)) (nI_add (7 + 10 * n) 2) ?_
          refine lv_iconst (v := 0) hx hb dX7_speaker_90 (by decide) ?_
          refine ur_iast C h 252 (by decide) (uc_252 E) (7 + 10 * n + 2) (by omega) (by decide) dX7_speaker_91 (fun M_13 H locs eM_13 h => ?_)
          refine lv_aload_n hx hb dX7_speaker_92 rfl (lv_at hl 1 rfl) ?_
          refine ur_get C h 251 (by decide) (uc_251 E _) (Cn := RX7) (T := TX7) (N := 17) rfl hin7 0 (by decide) (by decide +kernel) rfl dX7_speaker_93 ?_
          refine lv_iload hx hb dX7_speaker_96 (lv_at hl 0 rfl) ?_
          refine lv_iconst (v := 3) hx hb dX7_speaker_98 (by decide) ?_
          refine lv_iadd hx hb dX7_speaker_99 ?_
          refine ur_eq (y := nI (7 + 10 * n + 3)) (nI_add (7 + 10 * n) 3) ?_
          refine lv_iconst (v := 0) hx hb dX7_speaker_100 (by decide) ?_
          refine ur_iast C h 252 (by decide) (uc_252 E) (7 + 10 * n + 3) (by omega) (by decide) dX7_speaker_101 (fun M_14 H locs eM_14 h => ?_)
          refine lv_iconst (v := 0) hx hb dX7_speaker_102 (by decide) ?_
          refine lv_istore (lv' := [(5, .int 0), (4, .int (nI (7 + 10 * n))), (0, .ref (E.2.1 251)), (1, .int x1), (2, .int x2), (3, .int x3)]) hx hb dX7_speaker_103 hl (by decide) rfl (fun ls hl => ?_)
          have lp105 : ∀ (n105 : Nat) (i : Nat) (Mi : uM), 6 - i < n105 → i ≤ 6 → Mi = uFill M_14 252 (7 + 10 * n + 4) x3 i → ∀ (H : Heap) (locs : List Loc) (ls : Array Slot), uH E Mi s_ H locs → lv_has ls 6 [(5, .int (nI i)), (4, .int (nI (7 + 10 * n))), (0, .ref (E.2.1 251)), (1, .int x1), (2, .int x2), (3, .int x3)] → W p_ l e_ ({ frames := 1, cells := 0, slots := 0, locals := 25 }) s_ m_ (List.toArray [.ref (E.2.1 251), .int x1, .int x2, .int x3]) bl_ me_ c_ H locs 0 0 (MQ bl_ (va_Qi (fun r u => if (0 ≤ x1.toInt ∧ x1.toInt ≤ 4) ∧ (0 ≤ x2.toInt ∧ x2.toInt ≤ 1) ∧ (0 ≤ x3.toInt ∧ x3.toInt ≤ 9) then (if n = 6 then r = -3 ∧ M = u else u = mSpk M n x1 x2 x3 ∧ r = u.1 252 0 - 1) else r = -1 ∧ M = u) (uP E) (uA E)) (List.toArray [.ref (E.2.1 251), .int x1, .int x2, .int x3]) s_ 0 0 (uA E)) (F0 m_ 105 ls []) := by
            intro n105
            induction n105 with
            | zero => intro i Mi hms; exact absurd hms (Nat.not_lt_zero _)
            | succ n105 ih105 =>
              intro i Mi hms105 hi hMi H locs ls h hl
              refine lv_iload hx hb dX7_speaker_105 (lv_at hl 0 rfl) ?_
              refine lv_bipush (v := 6) hx hb dX7_speaker_107 (by decide) ?_
              refine lv_icmp_ge (tgt := 131) hx hb dX7_speaker_109 (by decide) (fun c_15 => ?_) (fun c_15 => ?_)
              · skip
                have c_15 : 6 ≤ i := (nI_leI (a := 6) (b := i) (by omega) (by omega)).mp c_15
                refine lv_aload_n hx hb dX7_speaker_131 rfl (lv_at hl 2 rfl) ?_
                refine ur_get C h 251 (by decide) (uc_251 E _) (Cn := RX7) (T := TX7) (N := 17) rfl hin7 0 (by decide) (by decide +kernel) rfl dX7_speaker_132 ?_
                refine lv_iconst (v := 0) hx hb dX7_speaker_135 (by decide) ?_
                refine lv_dup2_11 hx hb dX7_speaker_136 rfl rfl ?_
                refine ur_iald C h 252 (by decide) (uc_252 E _) (0) (by decide) (by decide) dX7_speaker_137 ?_
                refine lv_iconst (v := 1) hx hb dX7_speaker_138 (by decide) ?_
                refine lv_iadd hx hb dX7_speaker_139 ?_
                refine ur_iast C h 252 (by decide) (uc_252 E) (0) (by decide) (by decide) dX7_speaker_140 (fun M_16 H locs eM_16 h => ?_)
                refine lv_aload_n hx hb dX7_speaker_141 rfl (lv_at hl 2 rfl) ?_
                refine lv_iconst (v := 0) hx hb dX7_speaker_142 (by decide) ?_
                refine ur_puti C h 251 (by decide) (uc_251 E _) (Cn := RX7) (T := TX7) (N := 17) rfl hin7 tyX7 tyX7_ok nmX7 8 (by decide) (by decide +kernel) rfl rfl rfl (Nat.le_of_ble_eq_true rfl) (us_251_8 E _ _) dX7_speaker_143 (fun M_17 H locs eM_17 h => ?_)
                refine lv_aload_n hx hb dX7_speaker_146 rfl (lv_at hl 2 rfl) ?_
                refine ur_get C h 251 (by decide) (uc_251 E _) (Cn := RX7) (T := TX7) (N := 17) rfl hin7 0 (by decide) (by decide +kernel) rfl dX7_speaker_147 ?_
                refine lv_iconst (v := 0) hx hb dX7_speaker_150 (by decide) ?_
                refine ur_iald C h 252 (by decide) (uc_252 E _) (0) (by decide) (by decide) dX7_speaker_151 ?_
                refine lv_iconst (v := 1) hx hb dX7_speaker_152 (by decide) ?_
                refine lv_isub hx hb dX7_speaker_153 ?_
                exact ur_iret C h hr hlocks (by rw [if_pos (by omega), if_neg (by omega)]; exact ⟨by subst eM_11; subst eM_12; subst eM_13; subst eM_14; subst eM_16; subst eM_17; rw [hMi, show i = 6 by omega]; rfl, rfl⟩) dX7_speaker_154
              · skip
                have c_15 : ¬ 6 ≤ i := fun z => c_15 ((nI_leI (a := 6) (b := i) (by omega) (by omega)).mpr z)
                refine lv_aload_n hx hb dX7_speaker_112 rfl (lv_at hl 2 rfl) ?_
                refine ur_get C h 251 (by decide) (uc_251 E _) (Cn := RX7) (T := TX7) (N := 17) rfl hin7 0 (by decide) (by decide +kernel) rfl dX7_speaker_113 ?_
                refine lv_iload hx hb dX7_speaker_116 (lv_at hl 1 rfl) ?_
                refine lv_iconst (v := 4) hx hb dX7_speaker_118 (by decide) ?_
                refine lv_iadd hx hb dX7_speaker_119 ?_
                refine ur_eq (y := nI (7 + 10 * n + 4)) (nI_add (7 + 10 * n) 4) ?_
                refine lv_iload hx hb dX7_speaker_120 (lv_at hl 0 rfl) ?_
                refine lv_iadd hx hb dX7_speaker_122 ?_
                refine ur_eq (y := nI (7 + 10 * n + 4 + i)) (nI_add (7 + 10 * n + 4) i) ?_
                refine lv_iload_n hx hb dX7_speaker_123 rfl (lv_at hl 5 rfl) ?_
                refine ur_iast C h 252 (by decide) (uc_252 E) (7 + 10 * n + 4 + i) (by omega) (by decide) dX7_speaker_124 (fun M_18 H locs eM_18 h => ?_)
                refine lv_iinc (v := nI (i + 1)) (lv' := [(5, .int (nI (i + 1))), (4, .int (nI (7 + 10 * n))), (0, .ref (E.2.1 251)), (1, .int x1), (2, .int x2), (3, .int x3)]) hx hb dX7_speaker_125 hl (k := 0) rfl (nI_add i 1) (by decide) rfl (fun ls hl => ?_)
                refine lv_goto (tgt := 105) hx hb dX7_speaker_128 (by decide) ?_
                exact ih105  (i + 1) M_18 (by omega) (by omega) (by rw [eM_18, hMi]; rfl) _ _ _ h (lv_sub hl [0, 1, 2, 3, 4, 5] rfl)
          exact lp105 _ 0 M_14 (Nat.lt_succ_self _) (by omega) rfl _ _ _ h (lv_sub hl [0, 1, 2, 3, 4, 5] rfl)
        · skip
          have c_10 : n = 6 := (nI_eq (a := n) (b := 6) (by omega) (by omega)).mp c_10
          refine lv_bipush (v := (-3)) hx hb dX7_speaker_47 (by decide) ?_
          exact ur_iret C h hr hlocks (by rw [if_pos (by omega), if_pos (by omega)]; exact ⟨rfl, rfl⟩) dX7_speaker_49
      · skip
        have c_9 : ¬ (0 ≤ x3.toInt ∧ x3.toInt ≤ 9) := uz_f er_7 c_9
        refine lv_iconst (v := (-1)) hx hb dX7_speaker_34 (by decide) ?_
        exact ur_iret C h hr hlocks (by rw [if_neg (by omega)]; exact ⟨rfl, rfl⟩) dX7_speaker_35
set_option maxHeartbeats 4000000 in
set_option maxRecDepth 100000 in
theorem k_X7_can (l : Launch) (E : uE) (hI : uI E) (M : uM) (x1 x2 x3 : Int32) (n : Nat) (hn : M.1 252 0 = nI n) (hn6 : n ≤ 6) : Met l yX7_can wsX7_can ({ frames := 2, cells := 0, slots := 0, locals := 46 }) (va_Pc [.ref (E.2.1 251), .int x1, .int x2, .int x3] (uB E M)) (va_Qi (fun r u => if (0 ≤ x1.toInt ∧ x1.toInt < n) ∧ (0 ≤ x2.toInt ∧ x2.toInt ≤ 5) ∧ (0 ≤ x3.toInt ∧ x3.toInt ≤ 9) then u = uSet M 252 (7 + 10 * tn x1 + 4 + tn x2) x3 ∧ r = M.1 252 (7 + 10 * tn x1 + 4 + tn x2) else r = -1 ∧ M = u) (uP E) (uA E)) 0 0 (uA E) := by
  have hin7 : ∀ w ∈ wsX70, w ∈ wsX7_can := by decide +kernel
  refine u_start (cc := cX7_can) (maxL := 6) (ret := (some .int)) hI (by decide) rfl (Nat.le_of_ble_eq_true rfl) ?_
  intro p_ e_ s_ m_ bl_ me_ c_ C hr hlocks h ls hl
  have hx := C.1.1
  have hb := C.1.2.1
  have hown : s_.vm.findClass RX7 = some m_.cls := C.1.2.2.2.1
  have hts := C.1.2.2.2.2
  have hl : lv_has ls 6 [(0, .ref (E.2.1 251)), (1, .int x1), (2, .int x2), (3, .int x3)] := hl
  refine lv_aload_n hx hb dX7_can_0 rfl (lv_at hl 0 rfl) ?_
  refine lv_iload_n hx hb dX7_can_1 rfl (lv_at hl 1 rfl) ?_
  refine ur_callVi C h (k := 251) (As := [.int x1]) (rest := []) (k_X7_isSpeaker l E hI M x1 n hn hn6) (cwV 1 hts gX7_can_X7_isSpeaker rfl rfl rfl (by decide +kernel) ⟨Nat.le_of_ble_eq_true rfl, Nat.le_of_ble_eq_true rfl⟩) (by decide) (uc_251 E _) (T := TX7) (N := 17) rfl rfl hl.1 rfl (Nat.le_of_ble_eq_true rfl) dX7_can_2 (fun r_1 M_2 H locs hw_2 h => ?_)
  obtain ⟨hu, er_1⟩ := hw_2
  subst hu
  refine lv_if_eq (tgt := 32) hx hb dX7_can_5 (by decide) (fun c_3 => ?_) (fun c_3 => ?_)
  · skip
    have c_3 : ¬ (0 ≤ x1.toInt ∧ x1.toInt < n) := uz_f er_1 c_3
    refine lv_iconst (v := (-1)) hx hb dX7_can_32 (by decide) ?_
    exact ur_iret C h hr hlocks (by rw [if_neg (by omega)]; exact ⟨rfl, rfl⟩) dX7_can_33
  · skip
    have c_3 : 0 ≤ x1.toInt ∧ x1.toInt < n := uz_t er_1 c_3
    refine lv_iload_n hx hb dX7_can_8 rfl (lv_at hl 2 rfl) ?_
    refine lv_i2l (v := x2.toInt64) hx hb dX7_can_9 rfl ?_
    refine lv_lconst (v := 0) hx hb dX7_can_10 (by decide) ?_
    refine lv_ldc2 (v := 5) hx hb hown (hts (.constantLong RX7 90 5) (by decide +kernel)) dX7_can_11 ?_
    refine ur_callSi C h (As := [.long x2.toInt64, .long 0, .long 5]) (rest := []) (k_X7_in l E hI M x2.toInt64 0 5) (va_cwS 3 hts gX7_can_X7_in rfl rfl rfl (by decide +kernel) ⟨Nat.le_of_ble_eq_true rfl, Nat.le_of_ble_eq_true rfl⟩) rfl hl.1 rfl (Nat.le_of_ble_eq_true rfl) dX7_can_14 (fun r_4 M_5 H locs hw_5 h => ?_)
    obtain ⟨hu, er_4⟩ := hw_5
    subst hu
    have er_4 : r_4 = if 0 ≤ x2.toInt ∧ x2.toInt ≤ 5 then 1 else 0 := u_in (x := x2.toInt) (u_w _) rfl rfl er_4
    refine lv_if_eq (tgt := 32) hx hb dX7_can_17 (by decide) (fun c_6 => ?_) (fun c_6 => ?_)
    · skip
      have c_6 : ¬ (0 ≤ x2.toInt ∧ x2.toInt ≤ 5) := uz_f er_4 c_6
      refine lv_iconst (v := (-1)) hx hb dX7_can_32 (by decide) ?_
      exact ur_iret C h hr hlocks (by rw [if_neg (by omega)]; exact ⟨rfl, rfl⟩) dX7_can_33
    · skip
      have c_6 : 0 ≤ x2.toInt ∧ x2.toInt ≤ 5 := uz_t er_4 c_6
      refine lv_iload_n hx hb dX7_can_20 rfl (lv_at hl 3 rfl) ?_
      refine lv_i2l (v := x3.toInt64) hx hb dX7_can_21 rfl ?_
      refine lv_lconst (v := 0) hx hb dX7_can_22 (by decide) ?_
      refine lv_ldc2 (v := 9) hx hb hown (hts (.constantLong RX7 80 9) (by decide +kernel)) dX7_can_23 ?_
      refine ur_callSi C h (As := [.long x3.toInt64, .long 0, .long 9]) (rest := []) (k_X7_in l E hI M x3.toInt64 0 9) (va_cwS 3 hts gX7_can_X7_in rfl rfl rfl (by decide +kernel) ⟨Nat.le_of_ble_eq_true rfl, Nat.le_of_ble_eq_true rfl⟩) rfl hl.1 rfl (Nat.le_of_ble_eq_true rfl) dX7_can_26 (fun r_7 M_8 H locs hw_8 h => ?_)
      obtain ⟨hu, er_7⟩ := hw_8
      subst hu
      have er_7 : r_7 = if 0 ≤ x3.toInt ∧ x3.toInt ≤ 9 then 1 else 0 := u_in (x := x3.toInt) (u_w _) rfl rfl er_7
      refine lv_if_ne (tgt := 34) hx hb dX7_can_29 (by decide) (fun c_9 => ?_) (fun c_9 => ?_)
      · skip
        have c_9 : 0 ≤ x3.toInt ∧ x3.toInt ≤ 9 := uz_t er_7 c_9
        obtain ⟨hnx1, enx1⟩ := u_tn c_3 (by omega)
        obtain ⟨hnx2, enx2⟩ := u_tn (x := x2) (n := 6) ⟨by omega, by omega⟩ (by omega)
        refine lv_bipush (v := 7) hx hb dX7_can_34 (by decide) ?_
        refine lv_bipush (v := 10) hx hb dX7_can_36 (by decide) ?_
        refine lv_iload_n hx hb dX7_can_38 rfl (lv_at hl 1 rfl) ?_
        refine ur_eq (y := nI (tn x1)) enx1 ?_
        refine lv_imul hx hb dX7_can_39 ?_
        refine ur_eq (y := nI (10 * (tn x1))) (pk_mul 10 (tn x1)) ?_
        refine lv_iadd hx hb dX7_can_40 ?_
        refine ur_eq (y := nI (7 + 10 * (tn x1))) (nI_add 7 (10 * (tn x1))) ?_
        refine lv_iconst (v := 4) hx hb dX7_can_41 (by decide) ?_
        refine lv_iadd hx hb dX7_can_42 ?_
        refine ur_eq (y := nI (7 + 10 * (tn x1) + 4)) (nI_add (7 + 10 * (tn x1)) 4) ?_
        refine lv_iload_n hx hb dX7_can_43 rfl (lv_at hl 2 rfl) ?_
        refine ur_eq (y := nI (tn x2)) enx2 ?_
        refine lv_iadd hx hb dX7_can_44 ?_
        refine ur_eq (y := nI (7 + 10 * (tn x1) + 4 + tn x2)) (nI_add (7 + 10 * (tn x1) + 4) (tn x2)) ?_
        refine lv_istore (lv' := [(4, .int (nI (7 + 10 * (tn x1) + 4 + tn x2))), (0, .ref (E.2.1 251)), (1, .int x1), (2, .int x2), (3, .int x3)]) hx hb dX7_can_45 hl (by decide) rfl (fun ls hl => ?_)
        refine lv_aload_n hx hb dX7_can_47 rfl (lv_at hl 1 rfl) ?_
        refine ur_get C h 251 (by decide) (uc_251 E _) (Cn := RX7) (T := TX7) (N := 17) rfl hin7 0 (by decide) (by decide +kernel) rfl dX7_can_48 ?_
        refine lv_iload hx hb dX7_can_51 (lv_at hl 0 rfl) ?_
        refine ur_iald C h 252 (by decide) (uc_252 E _) (7 + 10 * (tn x1) + 4 + tn x2) (by omega) (by decide) dX7_can_53 ?_
        refine lv_topi (fun v_10 ev_10 => ?_)
        refine lv_istore (lv' := [(5, .int v_10), (4, .int (nI (7 + 10 * (tn x1) + 4 + tn x2))), (0, .ref (E.2.1 251)), (1, .int x1), (2, .int x2), (3, .int x3)]) hx hb dX7_can_54 hl (by decide) rfl (fun ls hl => ?_)
        refine lv_aload_n hx hb dX7_can_56 rfl (lv_at hl 2 rfl) ?_
        refine ur_get C h 251 (by decide) (uc_251 E _) (Cn := RX7) (T := TX7) (N := 17) rfl hin7 0 (by decide) (by decide +kernel) rfl dX7_can_57 ?_
        refine lv_iload hx hb dX7_can_60 (lv_at hl 1 rfl) ?_
        refine lv_iload_n hx hb dX7_can_62 rfl (lv_at hl 5 rfl) ?_
        refine ur_iast C h 252 (by decide) (uc_252 E) (7 + 10 * (tn x1) + 4 + tn x2) (by omega) (by decide) dX7_can_63 (fun M_11 H locs eM_11 h => ?_)
        refine lv_iload hx hb dX7_can_64 (lv_at hl 0 rfl) ?_
        exact ur_iret C h hr hlocks (by rw [if_pos (by omega)]; subst ev_10; subst eM_11; exact ⟨rfl, rfl⟩) dX7_can_66
      · skip
        have c_9 : ¬ (0 ≤ x3.toInt ∧ x3.toInt ≤ 9) := uz_f er_7 c_9
        refine lv_iconst (v := (-1)) hx hb dX7_can_32 (by decide) ?_
        exact ur_iret C h hr hlocks (by rw [if_neg (by omega)]; exact ⟨rfl, rfl⟩) dX7_can_33
set_option maxHeartbeats 4000000 in
set_option maxRecDepth 100000 in
theorem k_X7_word (l : Launch) (E : uE) (hI : uI E) (M : uM) (x1 : Int32) (nw : Nat) (hnw : M.1 252 1 = nI nw) (hnw6 : nw ≤ 6) : Met l yX7_word wsX7_word ({ frames := 1, cells := 0, slots := 0, locals := 25 }) (va_Pc [.ref (E.2.1 251), .int x1] (uB E M)) (va_Qi (fun r u => if 1 ≤ x1.toInt ∧ x1.toInt ≤ 63 then (if nw = 6 then r = -3 ∧ M = u else u = mWrd M nw x1 ∧ r = nI nw) else r = -1 ∧ M = u) (uP E) (uA E)) 0 0 (uA E) := by
  have hin7 : ∀ w ∈ wsX70, w ∈ wsX7_word := by decide +kernel
  refine u_start (cc := cX7_word) (maxL := 2) (ret := (some .int)) hI (by decide) rfl (Nat.le_of_ble_eq_true rfl) ?_
  intro p_ e_ s_ m_ bl_ me_ c_ C hr hlocks h ls hl
  have hx := C.1.1
  have hb := C.1.2.1
  have hown : s_.vm.findClass RX7 = some m_.cls := C.1.2.2.2.1
  have hts := C.1.2.2.2.2
  have hl : lv_has ls 2 [(0, .ref (E.2.1 251)), (1, .int x1)] := hl
  refine lv_iload_n hx hb dX7_word_0 rfl (lv_at hl 1 rfl) ?_
  refine lv_i2l (v := x1.toInt64) hx hb dX7_word_1 rfl ?_
  refine lv_lconst (v := 1) hx hb dX7_word_2 (by decide) ?_
  refine lv_ldc2 (v := 63) hx hb hown (hts (.constantLong RX7 92 63) (by decide +kernel)) dX7_word_3 ?_
  refine ur_callSi C h (As := [.long x1.toInt64, .long 1, .long 63]) (rest := []) (k_X7_in l E hI M x1.toInt64 1 63) (va_cwS 3 hts gX7_word_X7_in rfl rfl rfl (by decide +kernel) ⟨Nat.le_of_ble_eq_true rfl, Nat.le_of_ble_eq_true rfl⟩) rfl hl.1 rfl (Nat.le_of_ble_eq_true rfl) dX7_word_6 (fun r_1 M_2 H locs hw_2 h => ?_)
  obtain ⟨hu, er_1⟩ := hw_2
  subst hu
  have er_1 : r_1 = if 1 ≤ x1.toInt ∧ x1.toInt ≤ 63 then 1 else 0 := u_in (x := x1.toInt) (u_w _) rfl rfl er_1
  refine lv_if_ne (tgt := 14) hx hb dX7_word_9 (by decide) (fun c_3 => ?_) (fun c_3 => ?_)
  · skip
    have c_3 : 1 ≤ x1.toInt ∧ x1.toInt ≤ 63 := uz_t er_1 c_3
    refine lv_aload_n hx hb dX7_word_14 rfl (lv_at hl 0 rfl) ?_
    refine ur_get C h 251 (by decide) (uc_251 E _) (Cn := RX7) (T := TX7) (N := 17) rfl hin7 0 (by decide) (by decide +kernel) rfl dX7_word_15 ?_
    refine lv_iconst (v := 1) hx hb dX7_word_18 (by decide) ?_
    refine ur_iald C h 252 (by decide) (uc_252 E _) (1) (by decide) (by decide) dX7_word_19 ?_
    refine ur_eq (y := nI nw) (hnw) ?_
    refine lv_bipush (v := 6) hx hb dX7_word_20 (by decide) ?_
    refine lv_icmp_ne (tgt := 28) hx hb dX7_word_22 (by decide) (fun c_4 => ?_) (fun c_4 => ?_)
    · skip
      have c_4 : ¬ nw = 6 := fun z => c_4 ((nI_eq (a := nw) (b := 6) (by omega) (by omega)).mpr z)
      refine lv_aload_n hx hb dX7_word_28 rfl (lv_at hl 0 rfl) ?_
      refine ur_get C h 251 (by decide) (uc_251 E _) (Cn := RX7) (T := TX7) (N := 17) rfl hin7 0 (by decide) (by decide +kernel) rfl dX7_word_29 ?_
      refine lv_bipush (v := 67) hx hb dX7_word_32 (by decide) ?_
      refine lv_iconst (v := 2) hx hb dX7_word_34 (by decide) ?_
      refine lv_aload_n hx hb dX7_word_35 rfl (lv_at hl 0 rfl) ?_
      refine ur_get C h 251 (by decide) (uc_251 E _) (Cn := RX7) (T := TX7) (N := 17) rfl hin7 0 (by decide) (by decide +kernel) rfl dX7_word_36 ?_
      refine lv_iconst (v := 1) hx hb dX7_word_39 (by decide) ?_
      refine ur_iald C h 252 (by decide) (uc_252 E _) (1) (by decide) (by decide) dX7_word_40 ?_
      refine ur_eq (y := nI nw) (hnw) ?_
      refine lv_imul hx hb dX7_word_41 ?_
      refine ur_eq (y := nI (2 * nw)) (pk_mul 2 nw) ?_
      refine lv_iadd hx hb dX7_word_42 ?_
      refine ur_eq (y := nI (67 + 2 * nw)) (nI_add 67 (2 * nw)) ?_
      refine lv_iload_n hx hb dX7_word_43 rfl (lv_at hl 1 rfl) ?_
      refine ur_iast C h 252 (by decide) (uc_252 E) (67 + 2 * nw) (by omega) (by decide) dX7_word_44 (fun M_5 H locs eM_5 h => ?_)
      refine lv_aload_n hx hb dX7_word_45 rfl (lv_at hl 0 rfl) ?_
      refine ur_get C h 251 (by decide) (uc_251 E _) (Cn := RX7) (T := TX7) (N := 17) rfl hin7 0 (by decide) (by decide +kernel) rfl dX7_word_46 ?_
      refine lv_bipush (v := 67) hx hb dX7_word_49 (by decide) ?_
      refine lv_iconst (v := 2) hx hb dX7_word_51 (by decide) ?_
      refine lv_aload_n hx hb dX7_word_52 rfl (lv_at hl 0 rfl) ?_
      refine ur_get C h 251 (by decide) (uc_251 E _) (Cn := RX7) (T := TX7) (N := 17) rfl hin7 0 (by decide) (by decide +kernel) rfl dX7_word_53 ?_
      refine lv_iconst (v := 1) hx hb dX7_word_56 (by decide) ?_
      refine ur_iald C h 252 (by decide) (uc_252 E _) (1) (by decide) (by decide) dX7_word_57 ?_
      refine ur_eq (y := nI nw) (by rw [eM_5, u_set1, if_pos rfl, if_neg (by omega)]; exact hnw) ?_
      refine lv_imul hx hb dX7_word_58 ?_
      refine ur_eq (y := nI (2 * nw)) (pk_mul 2 nw) ?_
      refine lv_iadd hx hb dX7_word_59 ?_
      refine ur_eq (y := nI (67 + 2 * nw)) (nI_add 67 (2 * nw)) ?_
      refine lv_iconst (v := 1) hx hb dX7_word_60 (by decide) ?_
      refine lv_iadd hx hb dX7_word_61 ?_
      refine ur_eq (y := nI (67 + 2 * nw + 1)) (nI_add (67 + 2 * nw) 1) ?_
      refine lv_iconst (v := 0) hx hb dX7_word_62 (by decide) ?_
      refine ur_iast C h 252 (by decide) (uc_252 E) (67 + 2 * nw + 1) (by omega) (by decide) dX7_word_63 (fun M_6 H locs eM_6 h => ?_)
      refine lv_aload_n hx hb dX7_word_64 rfl (lv_at hl 0 rfl) ?_
      refine ur_get C h 251 (by decide) (uc_251 E _) (Cn := RX7) (T := TX7) (N := 17) rfl hin7 0 (by decide) (by decide +kernel) rfl dX7_word_65 ?_
      refine lv_iconst (v := 1) hx hb dX7_word_68 (by decide) ?_
      refine lv_dup2_11 hx hb dX7_word_69 rfl rfl ?_
      refine ur_iald C h 252 (by decide) (uc_252 E _) (1) (by decide) (by decide) dX7_word_70 ?_
      refine ur_eq (y := nI nw) (by rw [eM_6, u_set1, if_pos rfl, if_neg (by omega), eM_5, u_set1, if_pos rfl, if_neg (by omega)]; exact hnw) ?_
      refine lv_iconst (v := 1) hx hb dX7_word_71 (by decide) ?_
      refine lv_iadd hx hb dX7_word_72 ?_
      refine ur_eq (y := nI (nw + 1)) (nI_add nw 1) ?_
      refine ur_iast C h 252 (by decide) (uc_252 E) (1) (by decide) (by decide) dX7_word_73 (fun M_7 H locs eM_7 h => ?_)
      refine lv_aload_n hx hb dX7_word_74 rfl (lv_at hl 0 rfl) ?_
      refine lv_iconst (v := 0) hx hb dX7_word_75 (by decide) ?_
      refine ur_puti C h 251 (by decide) (uc_251 E _) (Cn := RX7) (T := TX7) (N := 17) rfl hin7 tyX7 tyX7_ok nmX7 8 (by decide) (by decide +kernel) rfl rfl rfl (Nat.le_of_ble_eq_true rfl) (us_251_8 E _ _) dX7_word_76 (fun M_8 H locs eM_8 h => ?_)
      refine lv_aload_n hx hb dX7_word_79 rfl (lv_at hl 0 rfl) ?_
      refine ur_get C h 251 (by decide) (uc_251 E _) (Cn := RX7) (T := TX7) (N := 17) rfl hin7 0 (by decide) (by decide +kernel) rfl dX7_word_80 ?_
      refine lv_iconst (v := 1) hx hb dX7_word_83 (by decide) ?_
      refine ur_iald C h 252 (by decide) (uc_252 E _) (1) (by decide) (by decide) dX7_word_84 ?_
      refine ur_eq (y := nI (nw + 1)) (by rw [eM_8, u_set1, if_neg (by decide), eM_7, u_set1, if_pos rfl, if_pos rfl]; try rfl) ?_
      refine lv_iconst (v := 1) hx hb dX7_word_85 (by decide) ?_
      refine lv_isub hx hb dX7_word_86 ?_
      refine ur_eq (y := nI (nw)) ((pk_sub (a := nw + 1) (b := 1) (by omega)).trans (congrArg nI (by omega))) ?_
      exact ur_iret C h hr hlocks (by rw [if_pos (by omega), if_neg (by omega)]; subst eM_5; subst eM_6; subst eM_7; subst eM_8; exact ⟨rfl, rfl⟩) dX7_word_87
    · skip
      have c_4 : nw = 6 := (nI_eq (a := nw) (b := 6) (by omega) (by omega)).mp c_4
      refine lv_bipush (v := (-3)) hx hb dX7_word_25 (by decide) ?_
      exact ur_iret C h hr hlocks (by rw [if_pos (by omega), if_pos (by omega)]; exact ⟨rfl, rfl⟩) dX7_word_27
  · skip
    have c_3 : ¬ (1 ≤ x1.toInt ∧ x1.toInt ≤ 63) := uz_f er_1 c_3
    refine lv_iconst (v := (-1)) hx hb dX7_word_12 (by decide) ?_
    exact ur_iret C h hr hlocks (by rw [if_neg (by omega)]; exact ⟨rfl, rfl⟩) dX7_word_13
set_option maxHeartbeats 4000000 in
set_option maxRecDepth 100000 in
theorem k_X7_guard (l : Launch) (E : uE) (hI : uI E) (M : uM) (x1 x2 : Int32) : Met l yX7_guard wsX7_guard ({ frames := 1, cells := 0, slots := 0, locals := 25 }) (va_Pc [.ref (E.2.1 251), .int x1, .int x2] (uB E M)) (va_Qi (fun r u => if (x1 = 0 ∧ 0 ≤ x2.toInt ∧ x2.toInt ≤ 10) ∨ (x1 = 1 ∧ 1 ≤ x2.toInt ∧ x2.toInt ≤ 24) then u = uSet M 252 (2 + tn x1) x2 ∧ r = M.1 252 (2 + tn x1) else r = -1 ∧ M = u) (uP E) (uA E)) 0 0 (uA E) := by
  have hin7 : ∀ w ∈ wsX70, w ∈ wsX7_guard := by decide +kernel
  refine u_start (cc := cX7_guard) (maxL := 4) (ret := (some .int)) hI (by decide) rfl (Nat.le_of_ble_eq_true rfl) ?_
  intro p_ e_ s_ m_ bl_ me_ c_ C hr hlocks h ls hl
  have hx := C.1.1
  have hb := C.1.2.1
  have hown : s_.vm.findClass RX7 = some m_.cls := C.1.2.2.2.1
  have hts := C.1.2.2.2.2
  have hl : lv_has ls 4 [(0, .ref (E.2.1 251)), (1, .int x1), (2, .int x2)] := hl
  refine lv_iload_n hx hb dX7_guard_0 rfl (lv_at hl 1 rfl) ?_
  refine lv_if_ne (tgt := 19) hx hb dX7_guard_1 (by decide) (fun c_1 => ?_) (fun c_1 => ?_)
  · skip
    refine lv_iload_n hx hb dX7_guard_19 rfl (lv_at hl 1 rfl) ?_
    refine lv_iconst (v := 1) hx hb dX7_guard_20 (by decide) ?_
    refine lv_icmp_ne (tgt := 36) hx hb dX7_guard_21 (by decide) (fun c_2 => ?_) (fun c_2 => ?_)
    · skip
      refine lv_iconst (v := (-1)) hx hb dX7_guard_36 (by decide) ?_
      exact ur_iret C h hr hlocks (by rw [if_neg (fun z => by rcases z with ⟨z1, z2⟩ | ⟨z1, z2⟩ <;> first | exact absurd z1 c_1 | exact absurd z1 c_2 | exact absurd z2 c_1 | exact absurd z2 c_2 | exact absurd ((c_1).symm.trans z1) (by decide) | exact absurd ((c_2).symm.trans z1) (by decide))]; exact ⟨rfl, rfl⟩) dX7_guard_37
    · skip
      refine lv_iload_n hx hb dX7_guard_24 rfl (lv_at hl 2 rfl) ?_
      refine lv_i2l (v := x2.toInt64) hx hb dX7_guard_25 rfl ?_
      refine lv_lconst (v := 1) hx hb dX7_guard_26 (by decide) ?_
      refine lv_ldc2 (v := 24) hx hb hown (hts (.constantLong RX7 96 24) (by decide +kernel)) dX7_guard_27 ?_
      refine ur_callSi C h (As := [.long x2.toInt64, .long 1, .long 24]) (rest := []) (k_X7_in l E hI M x2.toInt64 1 24) (va_cwS 3 hts gX7_guard_X7_in rfl rfl rfl (by decide +kernel) ⟨Nat.le_of_ble_eq_true rfl, Nat.le_of_ble_eq_true rfl⟩) rfl hl.1 rfl (Nat.le_of_ble_eq_true rfl) dX7_guard_30 (fun r_3 M_4 H locs hw_4 h => ?_)
      obtain ⟨hu, er_3⟩ := hw_4
      subst hu
      have er_3 : r_3 = if 1 ≤ x2.toInt ∧ x2.toInt ≤ 24 then 1 else 0 := u_in (x := x2.toInt) (u_w _) rfl rfl er_3
      refine lv_if_ne (tgt := 38) hx hb dX7_guard_33 (by decide) (fun c_5 => ?_) (fun c_5 => ?_)
      · skip
        have c_5 : 1 ≤ x2.toInt ∧ x2.toInt ≤ 24 := uz_t er_3 c_5
        obtain ⟨hnx1, enx1⟩ : tn x1 ≤ 1 ∧ x1 = nI (tn x1) := by first | (rw [c_1]; decide) | (rw [c_2]; decide) | (rw [c_5]; decide)
        refine lv_aload_n hx hb dX7_guard_38 rfl (lv_at hl 0 rfl) ?_
        refine ur_get C h 251 (by decide) (uc_251 E _) (Cn := RX7) (T := TX7) (N := 17) rfl hin7 0 (by decide) (by decide +kernel) rfl dX7_guard_39 ?_
        refine lv_iconst (v := 2) hx hb dX7_guard_42 (by decide) ?_
        refine lv_iload_n hx hb dX7_guard_43 rfl (lv_at hl 1 rfl) ?_
        refine ur_eq (y := nI (tn x1)) enx1 ?_
        refine lv_iadd hx hb dX7_guard_44 ?_
        refine ur_eq (y := nI (2 + tn x1)) (nI_add 2 (tn x1)) ?_
        refine ur_iald C h 252 (by decide) (uc_252 E _) (2 + tn x1) (by omega) (by decide) dX7_guard_45 ?_
        refine lv_istore_n (lv' := [(3, .int (M.1 252 (2 + tn x1))), (0, .ref (E.2.1 251)), (1, .int x1), (2, .int x2)]) hx hb dX7_guard_46 rfl hl (by decide) rfl (fun ls hl => ?_)
        refine lv_aload_n hx hb dX7_guard_47 rfl (lv_at hl 1 rfl) ?_
        refine ur_get C h 251 (by decide) (uc_251 E _) (Cn := RX7) (T := TX7) (N := 17) rfl hin7 0 (by decide) (by decide +kernel) rfl dX7_guard_48 ?_
        refine lv_iconst (v := 2) hx hb dX7_guard_51 (by decide) ?_
        refine lv_iload_n hx hb dX7_guard_52 rfl (lv_at hl 2 rfl) ?_
        refine ur_eq (y := nI (tn x1)) enx1 ?_
        refine lv_iadd hx hb dX7_guard_53 ?_
        refine ur_eq (y := nI (2 + tn x1)) (nI_add 2 (tn x1)) ?_
        refine lv_iload_n hx hb dX7_guard_54 rfl (lv_at hl 3 rfl) ?_
        refine ur_iast C h 252 (by decide) (uc_252 E) (2 + tn x1) (by omega) (by decide) dX7_guard_55 (fun M_6 H locs eM_6 h => ?_)
        refine lv_iload_n hx hb dX7_guard_56 rfl (lv_at hl 0 rfl) ?_
        exact ur_iret C h hr hlocks (by rw [if_pos (by first | exact Or.inl ⟨by assumption, by assumption⟩ | exact Or.inr ⟨by assumption, by assumption⟩)]; subst eM_6; exact ⟨rfl, rfl⟩) dX7_guard_57
      · skip
        have c_5 : ¬ (1 ≤ x2.toInt ∧ x2.toInt ≤ 24) := uz_f er_3 c_5
        refine lv_iconst (v := (-1)) hx hb dX7_guard_36 (by decide) ?_
        exact ur_iret C h hr hlocks (by rw [if_neg (fun z => by rcases z with ⟨z1, z2⟩ | ⟨z1, z2⟩ <;> first | exact absurd z1 c_1 | exact absurd z1 c_2 | exact absurd z1 c_5 | exact absurd z2 c_1 | exact absurd z2 c_2 | exact absurd z2 c_5 | exact absurd ((c_1).symm.trans z1) (by decide) | exact absurd ((c_2).symm.trans z1) (by decide) | exact absurd ((c_5).symm.trans z1) (by decide))]; exact ⟨rfl, rfl⟩) dX7_guard_37
  · skip
    refine lv_iload_n hx hb dX7_guard_4 rfl (lv_at hl 2 rfl) ?_
    refine lv_i2l (v := x2.toInt64) hx hb dX7_guard_5 rfl ?_
    refine lv_lconst (v := 0) hx hb dX7_guard_6 (by decide) ?_
    refine lv_ldc2 (v := 10) hx hb hown (hts (.constantLong RX7 94 10) (by decide +kernel)) dX7_guard_7 ?_
    refine ur_callSi C h (As := [.long x2.toInt64, .long 0, .long 10]) (rest := []) (k_X7_in l E hI M x2.toInt64 0 10) (va_cwS 3 hts gX7_guard_X7_in rfl rfl rfl (by decide +kernel) ⟨Nat.le_of_ble_eq_true rfl, Nat.le_of_ble_eq_true rfl⟩) rfl hl.1 rfl (Nat.le_of_ble_eq_true rfl) dX7_guard_10 (fun r_7 M_8 H locs hw_8 h => ?_)
    obtain ⟨hu, er_7⟩ := hw_8
    subst hu
    have er_7 : r_7 = if 0 ≤ x2.toInt ∧ x2.toInt ≤ 10 then 1 else 0 := u_in (x := x2.toInt) (u_w _) rfl rfl er_7
    refine lv_if_ne (tgt := 38) hx hb dX7_guard_13 (by decide) (fun c_9 => ?_) (fun c_9 => ?_)
    · skip
      have c_9 : 0 ≤ x2.toInt ∧ x2.toInt ≤ 10 := uz_t er_7 c_9
      obtain ⟨hnx1, enx1⟩ : tn x1 ≤ 1 ∧ x1 = nI (tn x1) := by first | (rw [c_1]; decide) | (rw [c_9]; decide)
      refine lv_aload_n hx hb dX7_guard_38 rfl (lv_at hl 0 rfl) ?_
      refine ur_get C h 251 (by decide) (uc_251 E _) (Cn := RX7) (T := TX7) (N := 17) rfl hin7 0 (by decide) (by decide +kernel) rfl dX7_guard_39 ?_
      refine lv_iconst (v := 2) hx hb dX7_guard_42 (by decide) ?_
      refine lv_iload_n hx hb dX7_guard_43 rfl (lv_at hl 1 rfl) ?_
      refine ur_eq (y := nI (tn x1)) enx1 ?_
      refine lv_iadd hx hb dX7_guard_44 ?_
      refine ur_eq (y := nI (2 + tn x1)) (nI_add 2 (tn x1)) ?_
      refine ur_iald C h 252 (by decide) (uc_252 E _) (2 + tn x1) (by omega) (by decide) dX7_guard_45 ?_
      refine lv_istore_n (lv' := [(3, .int (M.1 252 (2 + tn x1))), (0, .ref (E.2.1 251)), (1, .int x1), (2, .int x2)]) hx hb dX7_guard_46 rfl hl (by decide) rfl (fun ls hl => ?_)
      refine lv_aload_n hx hb dX7_guard_47 rfl (lv_at hl 1 rfl) ?_
      refine ur_get C h 251 (by decide) (uc_251 E _) (Cn := RX7) (T := TX7) (N := 17) rfl hin7 0 (by decide) (by decide +kernel) rfl dX7_guard_48 ?_
      refine lv_iconst (v := 2) hx hb dX7_guard_51 (by decide) ?_
      refine lv_iload_n hx hb dX7_guard_52 rfl (lv_at hl 2 rfl) ?_
      refine ur_eq (y := nI (tn x1)) enx1 ?_
      refine lv_iadd hx hb dX7_guard_53 ?_
      refine ur_eq (y := nI (2 + tn x1)) (nI_add 2 (tn x1)) ?_
      refine lv_iload_n hx hb dX7_guard_54 rfl (lv_at hl 3 rfl) ?_
      refine ur_iast C h 252 (by decide) (uc_252 E) (2 + tn x1) (by omega) (by decide) dX7_guard_55 (fun M_10 H locs eM_10 h => ?_)
      refine lv_iload_n hx hb dX7_guard_56 rfl (lv_at hl 0 rfl) ?_
      exact ur_iret C h hr hlocks (by rw [if_pos (by first | exact Or.inl ⟨by assumption, by assumption⟩ | exact Or.inr ⟨by assumption, by assumption⟩)]; subst eM_10; exact ⟨rfl, rfl⟩) dX7_guard_57
    · skip
      have c_9 : ¬ (0 ≤ x2.toInt ∧ x2.toInt ≤ 10) := uz_f er_7 c_9
      refine lv_goto (tgt := 36) hx hb dX7_guard_16 (by decide) ?_
      refine lv_iconst (v := (-1)) hx hb dX7_guard_36 (by decide) ?_
      exact ur_iret C h hr hlocks (by rw [if_neg (fun z => by rcases z with ⟨z1, z2⟩ | ⟨z1, z2⟩ <;> first | exact absurd z1 c_1 | exact absurd z1 c_9 | exact absurd z2 c_1 | exact absurd z2 c_9 | exact absurd ((c_1).symm.trans z1) (by decide) | exact absurd ((c_9).symm.trans z1) (by decide))]; exact ⟨rfl, rfl⟩) dX7_guard_37
set_option maxHeartbeats 4000000 in
set_option maxRecDepth 100000 in
theorem k_X7_of (l : Launch) (E : uE) (hI : uI E) (M : uM) (x1 x2 : Int32) (n : Nat) (hn : M.1 252 0 = nI n) (hn6 : n ≤ 6) : Met l yX7_of wsX7_of ({ frames := 2, cells := 0, slots := 0, locals := 46 }) (va_Pc [.ref (E.2.1 251), .int x1, .int x2] (uB E M)) (va_Qi (fun r u => M = u ∧ r = if (0 ≤ x1.toInt ∧ x1.toInt < n) ∧ (0 ≤ x2.toInt ∧ x2.toInt ≤ 3) then M.1 252 (7 + 10 * tn x1 + tn x2) else -1) (uP E) (uA E)) 0 0 (uA E) := by
  refine u_start (cc := cX7_of) (maxL := 3) (ret := (some .int)) hI (by decide) rfl (Nat.le_of_ble_eq_true rfl) ?_
  intro p_ e_ s_ m_ bl_ me_ c_ C hr hlocks h ls hl
  have hx := C.1.1
  have hb := C.1.2.1
  have hown : s_.vm.findClass RX7 = some m_.cls := C.1.2.2.2.1
  have hts := C.1.2.2.2.2
  have hl : lv_has ls 3 [(0, .ref (E.2.1 251)), (1, .int x1), (2, .int x2)] := hl
  refine lv_aload_n hx hb dX7_of_0 rfl (lv_at hl 0 rfl) ?_
  refine lv_iload_n hx hb dX7_of_1 rfl (lv_at hl 1 rfl) ?_
  refine ur_callVi C h (k := 251) (As := [.int x1]) (rest := []) (k_X7_isSpeaker l E hI M x1 n hn hn6) (cwV 1 hts gX7_of_X7_isSpeaker rfl rfl rfl (by decide +kernel) ⟨Nat.le_of_ble_eq_true rfl, Nat.le_of_ble_eq_true rfl⟩) (by decide) (uc_251 E _) (T := TX7) (N := 17) rfl rfl hl.1 rfl (Nat.le_of_ble_eq_true rfl) dX7_of_2 (fun r_1 M_2 H locs hw_2 h => ?_)
  obtain ⟨hu, er_1⟩ := hw_2
  subst hu
  refine lv_if_eq (tgt := 29) hx hb dX7_of_5 (by decide) (fun c_3 => ?_) (fun c_3 => ?_)
  · skip
    have c_3 : ¬ (0 ≤ x1.toInt ∧ x1.toInt < n) := uz_f er_1 c_3
    refine lv_iconst (v := (-1)) hx hb dX7_of_29 (by decide) ?_
    exact ur_iret C h hr hlocks (⟨rfl, by rw [if_neg (by omega)]⟩) dX7_of_30
  · skip
    have c_3 : 0 ≤ x1.toInt ∧ x1.toInt < n := uz_t er_1 c_3
    refine lv_iload_n hx hb dX7_of_8 rfl (lv_at hl 2 rfl) ?_
    refine lv_i2l (v := x2.toInt64) hx hb dX7_of_9 rfl ?_
    refine lv_lconst (v := 0) hx hb dX7_of_10 (by decide) ?_
    refine lv_ldc2 (v := 3) hx hb hown (hts (.constantLong RX7 98 3) (by decide +kernel)) dX7_of_11 ?_
    refine ur_callSi C h (As := [.long x2.toInt64, .long 0, .long 3]) (rest := []) (k_X7_in l E hI M x2.toInt64 0 3) (va_cwS 3 hts gX7_of_X7_in rfl rfl rfl (by decide +kernel) ⟨Nat.le_of_ble_eq_true rfl, Nat.le_of_ble_eq_true rfl⟩) rfl hl.1 rfl (Nat.le_of_ble_eq_true rfl) dX7_of_14 (fun r_4 M_5 H locs hw_5 h => ?_)
    obtain ⟨hu, er_4⟩ := hw_5
    subst hu
    have er_4 : r_4 = if 0 ≤ x2.toInt ∧ x2.toInt ≤ 3 then 1 else 0 := u_in (x := x2.toInt) (u_w _) rfl rfl er_4
    refine lv_if_eq (tgt := 29) hx hb dX7_of_17 (by decide) (fun c_6 => ?_) (fun c_6 => ?_)
    · skip
      have c_6 : ¬ (0 ≤ x2.toInt ∧ x2.toInt ≤ 3) := uz_f er_4 c_6
      refine lv_iconst (v := (-1)) hx hb dX7_of_29 (by decide) ?_
      exact ur_iret C h hr hlocks (⟨rfl, by rw [if_neg (by omega)]⟩) dX7_of_30
    · skip
      have c_6 : 0 ≤ x2.toInt ∧ x2.toInt ≤ 3 := uz_t er_4 c_6
      obtain ⟨hnx1, enx1⟩ := u_tn c_3 (by omega)
      obtain ⟨hnx2, enx2⟩ := u_tn (x := x2) (n := 4) ⟨by omega, by omega⟩ (by omega)
      refine lv_aload_n hx hb dX7_of_20 rfl (lv_at hl 0 rfl) ?_
      refine lv_iload_n hx hb dX7_of_21 rfl (lv_at hl 1 rfl) ?_
      refine ur_eq (y := nI (tn x1)) enx1 ?_
      refine lv_iload_n hx hb dX7_of_22 rfl (lv_at hl 2 rfl) ?_
      refine ur_eq (y := nI (tn x2)) enx2 ?_
      refine ur_callVi C h (k := 251) (As := [.int (nI (tn x1)), .int (nI (tn x2))]) (rest := []) (k_X7_told l E hI M (tn x1) (tn x2) (by omega)) (cwV 2 hts gX7_of_X7_told rfl rfl rfl (by decide +kernel) ⟨Nat.le_of_ble_eq_true rfl, Nat.le_of_ble_eq_true rfl⟩) (by decide) (uc_251 E _) (T := TX7) (N := 17) rfl rfl hl.1 rfl (Nat.le_of_ble_eq_true rfl) dX7_of_23 (fun r_7 M_8 H locs hw_8 h => ?_)
      obtain ⟨hu, er_7⟩ := hw_8
      subst hu
      refine ur_eq (y := M.1 252 (7 + 10 * (tn x1) + (tn x2))) er_7 ?_
      refine lv_goto (tgt := 30) hx hb dX7_of_26 (by decide) ?_
      exact ur_iret C h hr hlocks (⟨rfl, by rw [if_pos (by omega)]⟩) dX7_of_30
set_option maxHeartbeats 4000000 in
set_option maxRecDepth 100000 in
theorem k_X7_skill (l : Launch) (E : uE) (hI : uI E) (M : uM) (x1 x2 x3 : Int32) (n : Nat) (hn : M.1 252 0 = nI n) (hn6 : n ≤ 6) (nw : Nat) (hnw : M.1 252 1 = nI nw) (hnw6 : nw ≤ 6) : Met l yX7_skill wsX7_skill ({ frames := 2, cells := 0, slots := 0, locals := 48 }) (va_Pc [.ref (E.2.1 251), .int x1, .int x2, .int x3] (uB E M)) (va_Qi (fun r u => M = u ∧ r = if (0 ≤ x1.toInt ∧ x1.toInt < n) ∧ (0 ≤ x2.toInt ∧ x2.toInt < nw) ∧ (0 ≤ x3.toInt ∧ x3.toInt ≤ 5) then mSk M (tn x1) (M.1 252 (67 + 2 * tn x2 + 1)) (M.1 252 (7 + 10 * tn x1 + 3)) (tn x3) else -1) (uP E) (uA E)) 0 0 (uA E) := by
  refine u_start (cc := cX7_skill) (maxL := 4) (ret := (some .int)) hI (by decide) rfl (Nat.le_of_ble_eq_true rfl) ?_
  intro p_ e_ s_ m_ bl_ me_ c_ C hr hlocks h ls hl
  have hx := C.1.1
  have hb := C.1.2.1
  have hown : s_.vm.findClass RX7 = some m_.cls := C.1.2.2.2.1
  have hts := C.1.2.2.2.2
  have hl : lv_has ls 4 [(0, .ref (E.2.1 251)), (1, .int x1), (2, .int x2), (3, .int x3)] := hl
  refine lv_aload_n hx hb dX7_skill_0 rfl (lv_at hl 0 rfl) ?_
  refine lv_iload_n hx hb dX7_skill_1 rfl (lv_at hl 1 rfl) ?_
  refine ur_callVi C h (k := 251) (As := [.int x1]) (rest := []) (k_X7_isSpeaker l E hI M x1 n hn hn6) (cwV 1 hts gX7_skill_X7_isSpeaker rfl rfl rfl (by decide +kernel) ⟨Nat.le_of_ble_eq_true rfl, Nat.le_of_ble_eq_true rfl⟩) (by decide) (uc_251 E _) (T := TX7) (N := 17) rfl rfl hl.1 rfl (Nat.le_of_ble_eq_true rfl) dX7_skill_2 (fun r_1 M_2 H locs hw_2 h => ?_)
  obtain ⟨hu, er_1⟩ := hw_2
  subst hu
  refine lv_if_eq (tgt := 28) hx hb dX7_skill_5 (by decide) (fun c_3 => ?_) (fun c_3 => ?_)
  · skip
    have c_3 : ¬ (0 ≤ x1.toInt ∧ x1.toInt < n) := uz_f er_1 c_3
    refine lv_iconst (v := (-1)) hx hb dX7_skill_28 (by decide) ?_
    exact ur_iret C h hr hlocks (⟨rfl, by rw [if_neg (by omega)]⟩) dX7_skill_29
  · skip
    have c_3 : 0 ≤ x1.toInt ∧ x1.toInt < n := uz_t er_1 c_3
    refine lv_aload_n hx hb dX7_skill_8 rfl (lv_at hl 0 rfl) ?_
    refine lv_iload_n hx hb dX7_skill_9 rfl (lv_at hl 2 rfl) ?_
    refine ur_callVi C h (k := 251) (As := [.int x2]) (rest := []) (k_X7_isWord l E hI M x2 nw hnw hnw6) (cwV 1 hts gX7_skill_X7_isWord rfl rfl rfl (by decide +kernel) ⟨Nat.le_of_ble_eq_true rfl, Nat.le_of_ble_eq_true rfl⟩) (by decide) (uc_251 E _) (T := TX7) (N := 17) rfl rfl hl.1 rfl (Nat.le_of_ble_eq_true rfl) dX7_skill_10 (fun r_4 M_5 H locs hw_5 h => ?_)
    obtain ⟨hu, er_4⟩ := hw_5
    subst hu
    refine lv_if_eq (tgt := 28) hx hb dX7_skill_13 (by decide) (fun c_6 => ?_) (fun c_6 => ?_)
    · skip
      have c_6 : ¬ (0 ≤ x2.toInt ∧ x2.toInt < nw) := uz_f er_4 c_6
      refine lv_iconst (v := (-1)) hx hb dX7_skill_28 (by decide) ?_
      exact ur_iret C h hr hlocks (⟨rfl, by rw [if_neg (by omega)]⟩) dX7_skill_29
    · skip
      have c_6 : 0 ≤ x2.toInt ∧ x2.toInt < nw := uz_t er_4 c_6
      refine lv_iload_n hx hb dX7_skill_16 rfl (lv_at hl 3 rfl) ?_
      refine lv_i2l (v := x3.toInt64) hx hb dX7_skill_17 rfl ?_
      refine lv_lconst (v := 0) hx hb dX7_skill_18 (by decide) ?_
      refine lv_ldc2 (v := 5) hx hb hown (hts (.constantLong RX7 90 5) (by decide +kernel)) dX7_skill_19 ?_
      refine ur_callSi C h (As := [.long x3.toInt64, .long 0, .long 5]) (rest := []) (k_X7_in l E hI M x3.toInt64 0 5) (va_cwS 3 hts gX7_skill_X7_in rfl rfl rfl (by decide +kernel) ⟨Nat.le_of_ble_eq_true rfl, Nat.le_of_ble_eq_true rfl⟩) rfl hl.1 rfl (Nat.le_of_ble_eq_true rfl) dX7_skill_22 (fun r_7 M_8 H locs hw_8 h => ?_)
      obtain ⟨hu, er_7⟩ := hw_8
      subst hu
      have er_7 : r_7 = if 0 ≤ x3.toInt ∧ x3.toInt ≤ 5 then 1 else 0 := u_in (x := x3.toInt) (u_w _) rfl rfl er_7
      refine lv_if_ne (tgt := 30) hx hb dX7_skill_25 (by decide) (fun c_9 => ?_) (fun c_9 => ?_)
      · skip
        have c_9 : 0 ≤ x3.toInt ∧ x3.toInt ≤ 5 := uz_t er_7 c_9
        obtain ⟨hnx1, enx1⟩ := u_tn c_3 (by omega)
        obtain ⟨hnx2, enx2⟩ := u_tn c_6 (by omega)
        obtain ⟨hnx3, enx3⟩ := u_tn (x := x3) (n := 6) ⟨by omega, by omega⟩ (by omega)
        refine lv_aload_n hx hb dX7_skill_30 rfl (lv_at hl 0 rfl) ?_
        refine lv_iload_n hx hb dX7_skill_31 rfl (lv_at hl 1 rfl) ?_
        refine ur_eq (y := nI (tn x1)) enx1 ?_
        refine lv_iload_n hx hb dX7_skill_32 rfl (lv_at hl 3 rfl) ?_
        refine ur_eq (y := nI (tn x3)) enx3 ?_
        refine lv_aload_n hx hb dX7_skill_33 rfl (lv_at hl 0 rfl) ?_
        refine lv_iload_n hx hb dX7_skill_34 rfl (lv_at hl 2 rfl) ?_
        refine ur_eq (y := nI (tn x2)) enx2 ?_
        refine ur_callVi C h (k := 251) (As := [.int (nI (tn x2))]) (rest := [.int (nI (tn x3)), .int (nI (tn x1)), .ref (E.2.1 251)]) (k_X7_wornOf l E hI M (tn x2) (by omega)) (cwV 1 hts gX7_skill_X7_wornOf rfl rfl rfl (by decide +kernel) ⟨Nat.le_of_ble_eq_true rfl, Nat.le_of_ble_eq_true rfl⟩) (by decide) (uc_251 E _) (T := TX7) (N := 17) rfl rfl hl.1 rfl (Nat.le_of_ble_eq_true rfl) dX7_skill_35 (fun r_10 M_11 H locs hw_11 h => ?_)
        obtain ⟨hu, er_10⟩ := hw_11
        subst hu
        refine ur_eq (y := M.1 252 (67 + 2 * (tn x2) + 1)) er_10 ?_
        refine lv_aload_n hx hb dX7_skill_38 rfl (lv_at hl 0 rfl) ?_
        refine lv_iload_n hx hb dX7_skill_39 rfl (lv_at hl 1 rfl) ?_
        refine ur_eq (y := nI (tn x1)) enx1 ?_
        refine lv_iconst (v := 3) hx hb dX7_skill_40 (by decide) ?_
        refine ur_callVi C h (k := 251) (As := [.int (nI (tn x1)), .int 3]) (rest := [.int (M.1 252 (67 + 2 * (tn x2) + 1)), .int (nI (tn x3)), .int (nI (tn x1)), .ref (E.2.1 251)]) (k_X7_told l E hI M (tn x1) 3 (by omega)) (cwV 2 hts gX7_skill_X7_told rfl rfl rfl (by decide +kernel) ⟨Nat.le_of_ble_eq_true rfl, Nat.le_of_ble_eq_true rfl⟩) (by decide) (uc_251 E _) (T := TX7) (N := 17) rfl rfl hl.1 rfl (Nat.le_of_ble_eq_true rfl) dX7_skill_41 (fun r_12 M_13 H locs hw_13 h => ?_)
        obtain ⟨hu, er_12⟩ := hw_13
        subst hu
        refine ur_eq (y := M.1 252 (7 + 10 * (tn x1) + 3)) er_12 ?_
        refine ur_callVi C h (k := 251) (As := [.int (nI (tn x1)), .int (nI (tn x3)), .int (M.1 252 (67 + 2 * (tn x2) + 1)), .int (M.1 252 (7 + 10 * (tn x1) + 3))]) (rest := []) (k_X7_skillOf l E hI M (tn x1) (tn x3) (M.1 252 (67 + 2 * (tn x2) + 1)) (M.1 252 (7 + 10 * (tn x1) + 3)) (by omega) (by omega)) (cwV 4 hts gX7_skill_X7_skillOf rfl rfl rfl (by decide +kernel) ⟨Nat.le_of_ble_eq_true rfl, Nat.le_of_ble_eq_true rfl⟩) (by decide) (uc_251 E _) (T := TX7) (N := 17) rfl rfl hl.1 rfl (Nat.le_of_ble_eq_true rfl) dX7_skill_44 (fun r_14 M_15 H locs hw_15 h => ?_)
        obtain ⟨hu, er_14⟩ := hw_15
        subst hu
        refine ur_eq (y := mSk M (tn x1) (M.1 252 (67 + 2 * (tn x2) + 1)) (M.1 252 (7 + 10 * (tn x1) + 3)) (tn x3)) er_14 ?_
        exact ur_iret C h hr hlocks (⟨rfl, by rw [if_pos (by omega)]⟩) dX7_skill_47
      · skip
        have c_9 : ¬ (0 ≤ x3.toInt ∧ x3.toInt ≤ 5) := uz_f er_7 c_9
        refine lv_iconst (v := (-1)) hx hb dX7_skill_28 (by decide) ?_
        exact ur_iret C h hr hlocks (⟨rfl, by rw [if_neg (by omega)]⟩) dX7_skill_29
set_option maxHeartbeats 4000000 in
set_option maxRecDepth 100000 in
theorem k_X7_those (l : Launch) (E : uE) (hI : uI E) (M : uM) (x0 : Int32) (n : Nat) (hn : M.1 252 0 = nI n) (hn6 : n ≤ 6) : Met l yX7_those wsX7_those ({ frames := 1, cells := 0, slots := 0, locals := 22 }) (va_Pc [.ref (E.2.1 251), .int x0] (uB E M)) (va_Qi (fun r u => M = u ∧ r = nI (mThose M n x0)) (uP E) (uA E)) 0 0 (uA E) := by
  have hin7 : ∀ w ∈ wsX70, w ∈ wsX7_those := by decide +kernel
  refine u_start (cc := cX7_those) (maxL := 4) (ret := (some .int)) hI (by decide) rfl (Nat.le_of_ble_eq_true rfl) ?_
  intro p_ e_ s_ m_ bl_ me_ c_ C hr hlocks h ls hl
  have hx := C.1.1
  have hb := C.1.2.1
  have hown : s_.vm.findClass RX7 = some m_.cls := C.1.2.2.2.1
  have hts := C.1.2.2.2.2
  have hl : lv_has ls 4 [(0, .ref (E.2.1 251)), (1, .int x0)] := hl
  refine lv_iconst (v := 0) hx hb dX7_those_0 (by decide) ?_
  refine lv_istore_n (lv' := [(2, .int 0), (0, .ref (E.2.1 251)), (1, .int x0)]) hx hb dX7_those_1 rfl hl (by decide) rfl (fun ls hl => ?_)
  refine lv_iconst (v := 0) hx hb dX7_those_2 (by decide) ?_
  refine lv_istore_n (lv' := [(3, .int 0), (2, .int 0), (0, .ref (E.2.1 251)), (1, .int x0)]) hx hb dX7_those_3 rfl hl (by decide) rfl (fun ls hl => ?_)
  have lp4 : ∀ (n4 : Nat) (i : Nat), n - i < n4 → i ≤ n → ∀ (H : Heap) (locs : List Loc) (ls : Array Slot), uH E M s_ H locs → lv_has ls 4 [(3, .int (nI i)), (2, .int (nI (nSet (fun p => decide (mFate M p = x0)) i))), (0, .ref (E.2.1 251)), (1, .int x0)] → W p_ l e_ ({ frames := 1, cells := 0, slots := 0, locals := 22 }) s_ m_ (List.toArray [.ref (E.2.1 251), .int x0]) bl_ me_ c_ H locs 0 0 (MQ bl_ (va_Qi (fun r u => M = u ∧ r = nI (mThose M n x0)) (uP E) (uA E)) (List.toArray [.ref (E.2.1 251), .int x0]) s_ 0 0 (uA E)) (F0 m_ 4 ls []) := by
    intro n4
    induction n4 with
    | zero => intro i hms; exact absurd hms (Nat.not_lt_zero _)
    | succ n4 ih4 =>
      intro i hms4 hi H locs ls h hl
      refine lv_iload_n hx hb dX7_those_4 rfl (lv_at hl 0 rfl) ?_
      refine lv_aload_n hx hb dX7_those_5 rfl (lv_at hl 2 rfl) ?_
      refine ur_get C h 251 (by decide) (uc_251 E _) (Cn := RX7) (T := TX7) (N := 17) rfl hin7 0 (by decide) (by decide +kernel) rfl dX7_those_6 ?_
      refine lv_iconst (v := 0) hx hb dX7_those_9 (by decide) ?_
      refine ur_iald C h 252 (by decide) (uc_252 E _) (0) (by decide) (by decide) dX7_those_10 ?_
      refine ur_eq (y := nI n) (hn) ?_
      refine lv_icmp_ge (tgt := 40) hx hb dX7_those_11 (by decide) (fun c_1 => ?_) (fun c_1 => ?_)
      · skip
        have c_1 : n ≤ i := (nI_leI (a := n) (b := i) (by omega) (by omega)).mp c_1
        refine lv_iload_n hx hb dX7_those_40 rfl (lv_at hl 1 rfl) ?_
        exact ur_iret C h hr hlocks (⟨rfl, by rw [show i = n by omega]; rfl⟩) dX7_those_41
      · skip
        have c_1 : ¬ n ≤ i := fun z => c_1 ((nI_leI (a := n) (b := i) (by omega) (by omega)).mpr z)
        refine lv_iload_n hx hb dX7_those_14 rfl (lv_at hl 1 rfl) ?_
        refine lv_aload_n hx hb dX7_those_15 rfl (lv_at hl 2 rfl) ?_
        refine lv_iload_n hx hb dX7_those_16 rfl (lv_at hl 0 rfl) ?_
        refine lv_iconst (v := 2) hx hb dX7_those_17 (by decide) ?_
        refine ur_callVi C h (k := 251) (As := [.int (nI i), .int 2]) (rest := [.int (nI (nSet (fun p => decide (mFate M p = x0)) i))]) (k_X7_told l E hI M i 2 (by omega)) (cwV 2 hts gX7_those_X7_told rfl rfl rfl (by decide +kernel) ⟨Nat.le_of_ble_eq_true rfl, Nat.le_of_ble_eq_true rfl⟩) (by decide) (uc_251 E _) (T := TX7) (N := 17) rfl rfl hl.1 rfl (Nat.le_of_ble_eq_true rfl) dX7_those_18 (fun r_2 M_3 H locs hw_3 h => ?_)
        obtain ⟨hu, er_2⟩ := hw_3
        subst hu
        refine ur_eq (y := M.1 252 (7 + 10 * i + 2)) er_2 ?_
        refine lv_iload_n hx hb dX7_those_21 rfl (lv_at hl 3 rfl) ?_
        refine lv_icmp_ne (tgt := 31) hx hb dX7_those_22 (by decide) (fun c_4 => ?_) (fun c_4 => ?_)
        · skip
          refine lv_iconst (v := 0) hx hb dX7_those_31 (by decide) ?_
          refine lv_ior hx hb dX7_those_32 ?_
          refine ur_eq (y := nI (nSet (fun p => decide (mFate M p = x0)) (i + 1))) (by first | exact nSet_t (f := (fun p => decide (mFate M p = x0))) (by omega) (decide_eq_true c_4) | exact nSet_f (f := (fun p => decide (mFate M p = x0))) (decide_eq_false c_4)) ?_
          refine lv_istore_n (lv' := [(2, .int (nI (nSet (fun p => decide (mFate M p = x0)) (i + 1)))), (3, .int (nI i)), (0, .ref (E.2.1 251)), (1, .int x0)]) hx hb dX7_those_33 rfl hl (by decide) rfl (fun ls hl => ?_)
          refine lv_iinc (v := nI (i + 1)) (lv' := [(3, .int (nI (i + 1))), (2, .int (nI (nSet (fun p => decide (mFate M p = x0)) (i + 1)))), (0, .ref (E.2.1 251)), (1, .int x0)]) hx hb dX7_those_34 hl (k := 1) rfl (nI_add i 1) (by decide) rfl (fun ls hl => ?_)
          refine lv_goto (tgt := 4) hx hb dX7_those_37 (by decide) ?_
          exact ih4  (i + 1) (by omega) (by omega) _ _ _ h (lv_sub hl [0, 1, 2, 3] rfl)
        · skip
          refine lv_iconst (v := 1) hx hb dX7_those_25 (by decide) ?_
          refine lv_iload_n hx hb dX7_those_26 rfl (lv_at hl 0 rfl) ?_
          refine lv_ishl hx hb dX7_those_27 ?_
          refine lv_goto (tgt := 32) hx hb dX7_those_28 (by decide) ?_
          refine lv_ior hx hb dX7_those_32 ?_
          refine ur_eq (y := nI (nSet (fun p => decide (mFate M p = x0)) (i + 1))) (by first | exact nSet_t (f := (fun p => decide (mFate M p = x0))) (by omega) (decide_eq_true c_4) | exact nSet_f (f := (fun p => decide (mFate M p = x0))) (decide_eq_false c_4)) ?_
          refine lv_istore_n (lv' := [(2, .int (nI (nSet (fun p => decide (mFate M p = x0)) (i + 1)))), (3, .int (nI i)), (0, .ref (E.2.1 251)), (1, .int x0)]) hx hb dX7_those_33 rfl hl (by decide) rfl (fun ls hl => ?_)
          refine lv_iinc (v := nI (i + 1)) (lv' := [(3, .int (nI (i + 1))), (2, .int (nI (nSet (fun p => decide (mFate M p = x0)) (i + 1)))), (0, .ref (E.2.1 251)), (1, .int x0)]) hx hb dX7_those_34 hl (k := 1) rfl (nI_add i 1) (by decide) rfl (fun ls hl => ?_)
          refine lv_goto (tgt := 4) hx hb dX7_those_37 (by decide) ?_
          exact ih4  (i + 1) (by omega) (by omega) _ _ _ h (lv_sub hl [0, 1, 2, 3] rfl)
  exact lp4 _ 0 (Nat.lt_succ_self _) (by omega) _ _ _ h (lv_sub hl [0, 1, 2, 3] rfl)
set_option maxHeartbeats 4000000 in
set_option maxRecDepth 100000 in
theorem k_X7_count (l : Launch) (E : uE) (hI : uI E) (M : uM) (x1 : Int32) (n : Nat) (hn : M.1 252 0 = nI n) (hn6 : n ≤ 6) (ht : ¬ M.1 252 3 = 0) : Met l yX7_count wsX7_count ({ frames := 2, cells := 0, slots := 0, locals := 45 }) (va_Pc [.ref (E.2.1 251), .int x1] (uB E M)) (va_Qi (fun r u => M = u ∧ r = mCount M n x1) (uP E) (uA E)) 0 0 (uA E) := by
  have hin7 : ∀ w ∈ wsX70, w ∈ wsX7_count := by decide +kernel
  refine u_start (cc := cX7_count) (maxL := 2) (ret := (some .int)) hI (by decide) rfl (Nat.le_of_ble_eq_true rfl) ?_
  intro p_ e_ s_ m_ bl_ me_ c_ C hr hlocks h ls hl
  have hx := C.1.1
  have hb := C.1.2.1
  have hown : s_.vm.findClass RX7 = some m_.cls := C.1.2.2.2.1
  have hts := C.1.2.2.2.2
  have hl : lv_has ls 2 [(0, .ref (E.2.1 251)), (1, .int x1)] := hl
  refine lv_iload_n hx hb dX7_count_0 rfl (lv_at hl 1 rfl) ?_
  rcases Decidable.em (x1 = 0) with c_1 | c_1
  · skip
    refine lv_tableIn (off := 59) (tgt := 60) hx hb dX7_count_1 (by rw [c_1]; decide) (by rw [c_1]; decide) (by rw [c_1]; rfl) (by decide) ?_
    refine lv_aload_n hx hb dX7_count_60 rfl (lv_at hl 0 rfl) ?_
    refine ur_get C h 251 (by decide) (uc_251 E _) (Cn := RX7) (T := TX7) (N := 17) rfl hin7 0 (by decide) (by decide +kernel) rfl dX7_count_61 ?_
    refine lv_iload_n hx hb dX7_count_64 rfl (lv_at hl 1 rfl) ?_
    refine ur_eq (y := nI 0) c_1 ?_
    refine ur_iald C h 252 (by decide) (uc_252 E _) (0) (by decide) (by decide) dX7_count_65 ?_
    exact ur_iret C h hr hlocks (⟨rfl, by unfold mCount; rw [if_pos c_1]; try rfl⟩) dX7_count_66
  rcases Decidable.em (x1 = 1) with c_2 | c_2
  · skip
    refine lv_tableIn (off := 59) (tgt := 60) hx hb dX7_count_1 (by rw [c_2]; decide) (by rw [c_2]; decide) (by rw [c_2]; rfl) (by decide) ?_
    refine lv_aload_n hx hb dX7_count_60 rfl (lv_at hl 0 rfl) ?_
    refine ur_get C h 251 (by decide) (uc_251 E _) (Cn := RX7) (T := TX7) (N := 17) rfl hin7 0 (by decide) (by decide +kernel) rfl dX7_count_61 ?_
    refine lv_iload_n hx hb dX7_count_64 rfl (lv_at hl 1 rfl) ?_
    refine ur_eq (y := nI 1) c_2 ?_
    refine ur_iald C h 252 (by decide) (uc_252 E _) (1) (by decide) (by decide) dX7_count_65 ?_
    exact ur_iret C h hr hlocks (⟨rfl, by unfold mCount; rw [if_neg c_1]; rw [if_pos c_2]; try rfl⟩) dX7_count_66
  rcases Decidable.em (x1 = 2) with c_3 | c_3
  · skip
    refine lv_tableIn (off := 59) (tgt := 60) hx hb dX7_count_1 (by rw [c_3]; decide) (by rw [c_3]; decide) (by rw [c_3]; rfl) (by decide) ?_
    refine lv_aload_n hx hb dX7_count_60 rfl (lv_at hl 0 rfl) ?_
    refine ur_get C h 251 (by decide) (uc_251 E _) (Cn := RX7) (T := TX7) (N := 17) rfl hin7 0 (by decide) (by decide +kernel) rfl dX7_count_61 ?_
    refine lv_iload_n hx hb dX7_count_64 rfl (lv_at hl 1 rfl) ?_
    refine ur_eq (y := nI 2) c_3 ?_
    refine ur_iald C h 252 (by decide) (uc_252 E _) (2) (by decide) (by decide) dX7_count_65 ?_
    exact ur_iret C h hr hlocks (⟨rfl, by unfold mCount; rw [if_neg c_1]; rw [if_neg c_2]; rw [if_pos c_3]; try rfl⟩) dX7_count_66
  rcases Decidable.em (x1 = 3) with c_4 | c_4
  · skip
    refine lv_tableIn (off := 59) (tgt := 60) hx hb dX7_count_1 (by rw [c_4]; decide) (by rw [c_4]; decide) (by rw [c_4]; rfl) (by decide) ?_
    refine lv_aload_n hx hb dX7_count_60 rfl (lv_at hl 0 rfl) ?_
    refine ur_get C h 251 (by decide) (uc_251 E _) (Cn := RX7) (T := TX7) (N := 17) rfl hin7 0 (by decide) (by decide +kernel) rfl dX7_count_61 ?_
    refine lv_iload_n hx hb dX7_count_64 rfl (lv_at hl 1 rfl) ?_
    refine ur_eq (y := nI 3) c_4 ?_
    refine ur_iald C h 252 (by decide) (uc_252 E _) (3) (by decide) (by decide) dX7_count_65 ?_
    exact ur_iret C h hr hlocks (⟨rfl, by unfold mCount; rw [if_neg c_1]; rw [if_neg c_2]; rw [if_neg c_3]; rw [if_pos c_4]; try rfl⟩) dX7_count_66
  rcases Decidable.em (x1 = 4) with c_5 | c_5
  · skip
    refine lv_tableIn (off := 59) (tgt := 60) hx hb dX7_count_1 (by rw [c_5]; decide) (by rw [c_5]; decide) (by rw [c_5]; rfl) (by decide) ?_
    refine lv_aload_n hx hb dX7_count_60 rfl (lv_at hl 0 rfl) ?_
    refine ur_get C h 251 (by decide) (uc_251 E _) (Cn := RX7) (T := TX7) (N := 17) rfl hin7 0 (by decide) (by decide +kernel) rfl dX7_count_61 ?_
    refine lv_iload_n hx hb dX7_count_64 rfl (lv_at hl 1 rfl) ?_
    refine ur_eq (y := nI 4) c_5 ?_
    refine ur_iald C h 252 (by decide) (uc_252 E _) (4) (by decide) (by decide) dX7_count_65 ?_
    exact ur_iret C h hr hlocks (⟨rfl, by unfold mCount; rw [if_neg c_1]; rw [if_neg c_2]; rw [if_neg c_3]; rw [if_neg c_4]; rw [if_pos c_5]; try rfl⟩) dX7_count_66
  rcases Decidable.em (x1 = 5) with c_6 | c_6
  · skip
    refine lv_tableIn (off := 66) (tgt := 67) hx hb dX7_count_1 (by rw [c_6]; decide) (by rw [c_6]; decide) (by rw [c_6]; rfl) (by decide) ?_
    refine lv_aload_n hx hb dX7_count_67 rfl (lv_at hl 0 rfl) ?_
    refine lv_aload_n hx hb dX7_count_68 rfl (lv_at hl 0 rfl) ?_
    refine ur_get C h 251 (by decide) (uc_251 E _) (Cn := RX7) (T := TX7) (N := 17) rfl hin7 0 (by decide) (by decide +kernel) rfl dX7_count_69 ?_
    refine lv_iconst (v := 4) hx hb dX7_count_72 (by decide) ?_
    refine ur_iald C h 252 (by decide) (uc_252 E _) (4) (by decide) (by decide) dX7_count_73 ?_
    refine ur_callVi C h (k := 251) (As := [.int (M.1 252 4)]) (rest := []) (k_X7_hears l E hI M (M.1 252 4) ht) (cwV 1 hts gX7_count_X7_hears rfl rfl rfl (by decide +kernel) ⟨Nat.le_of_ble_eq_true rfl, Nat.le_of_ble_eq_true rfl⟩) (by decide) (uc_251 E _) (T := TX7) (N := 17) rfl rfl hl.1 rfl (Nat.le_of_ble_eq_true rfl) dX7_count_74 (fun r_7 M_8 H locs hw_8 h => ?_)
    obtain ⟨hu, er_7⟩ := hw_8
    subst hu
    refine ur_eq (y := uHears (M.1 252 2) (M.1 252 3) (M.1 252 4)) er_7 ?_
    exact ur_iret C h hr hlocks (⟨rfl, by unfold mCount; rw [if_neg c_1]; rw [if_neg c_2]; rw [if_neg c_3]; rw [if_neg c_4]; rw [if_neg c_5]; rw [if_pos c_6]; try rfl⟩) dX7_count_77
  rcases Decidable.em (x1 = 6) with c_9 | c_9
  · skip
    refine lv_tableIn (off := 77) (tgt := 78) hx hb dX7_count_1 (by rw [c_9]; decide) (by rw [c_9]; decide) (by rw [c_9]; rfl) (by decide) ?_
    refine lv_aload_n hx hb dX7_count_78 rfl (lv_at hl 0 rfl) ?_
    refine lv_iload_n hx hb dX7_count_79 rfl (lv_at hl 1 rfl) ?_
    refine ur_eq (y := nI 6) c_9 ?_
    refine lv_bipush (v := 6) hx hb dX7_count_80 (by decide) ?_
    refine lv_isub hx hb dX7_count_82 ?_
    refine ur_eq (y := nI 0) (pk_sub (by decide)) ?_
    refine ur_callVi C h (k := 251) (As := [.int (nI 0)]) (rest := []) (k_X7_those l E hI M (nI 0) n hn hn6) (cwV 1 hts gX7_count_X7_those rfl rfl rfl (by decide +kernel) ⟨Nat.le_of_ble_eq_true rfl, Nat.le_of_ble_eq_true rfl⟩) (by decide) (uc_251 E _) (T := TX7) (N := 17) rfl rfl hl.1 rfl (Nat.le_of_ble_eq_true rfl) dX7_count_83 (fun r_10 M_11 H locs hw_11 h => ?_)
    obtain ⟨hu, er_10⟩ := hw_11
    subst hu
    refine ur_eq (y := nI (mThose M n (nI 0))) er_10 ?_
    exact ur_iret C h hr hlocks (⟨rfl, by unfold mCount; rw [if_neg c_1]; rw [if_neg c_2]; rw [if_neg c_3]; rw [if_neg c_4]; rw [if_neg c_5]; rw [if_neg c_6]; rw [if_pos c_9]; try rfl⟩) dX7_count_86
  rcases Decidable.em (x1 = 7) with c_12 | c_12
  · skip
    refine lv_tableIn (off := 77) (tgt := 78) hx hb dX7_count_1 (by rw [c_12]; decide) (by rw [c_12]; decide) (by rw [c_12]; rfl) (by decide) ?_
    refine lv_aload_n hx hb dX7_count_78 rfl (lv_at hl 0 rfl) ?_
    refine lv_iload_n hx hb dX7_count_79 rfl (lv_at hl 1 rfl) ?_
    refine ur_eq (y := nI 7) c_12 ?_
    refine lv_bipush (v := 6) hx hb dX7_count_80 (by decide) ?_
    refine lv_isub hx hb dX7_count_82 ?_
    refine ur_eq (y := nI 1) (pk_sub (by decide)) ?_
    refine ur_callVi C h (k := 251) (As := [.int (nI 1)]) (rest := []) (k_X7_those l E hI M (nI 1) n hn hn6) (cwV 1 hts gX7_count_X7_those rfl rfl rfl (by decide +kernel) ⟨Nat.le_of_ble_eq_true rfl, Nat.le_of_ble_eq_true rfl⟩) (by decide) (uc_251 E _) (T := TX7) (N := 17) rfl rfl hl.1 rfl (Nat.le_of_ble_eq_true rfl) dX7_count_83 (fun r_13 M_14 H locs hw_14 h => ?_)
    obtain ⟨hu, er_13⟩ := hw_14
    subst hu
    refine ur_eq (y := nI (mThose M n (nI 1))) er_13 ?_
    exact ur_iret C h hr hlocks (⟨rfl, by unfold mCount; rw [if_neg c_1]; rw [if_neg c_2]; rw [if_neg c_3]; rw [if_neg c_4]; rw [if_neg c_5]; rw [if_neg c_6]; rw [if_neg c_9]; rw [if_pos c_12]; try rfl⟩) dX7_count_86
  rcases Decidable.em (x1 = 8) with c_15 | c_15
  · skip
    refine lv_tableIn (off := 77) (tgt := 78) hx hb dX7_count_1 (by rw [c_15]; decide) (by rw [c_15]; decide) (by rw [c_15]; rfl) (by decide) ?_
    refine lv_aload_n hx hb dX7_count_78 rfl (lv_at hl 0 rfl) ?_
    refine lv_iload_n hx hb dX7_count_79 rfl (lv_at hl 1 rfl) ?_
    refine ur_eq (y := nI 8) c_15 ?_
    refine lv_bipush (v := 6) hx hb dX7_count_80 (by decide) ?_
    refine lv_isub hx hb dX7_count_82 ?_
    refine ur_eq (y := nI 2) (pk_sub (by decide)) ?_
    refine ur_callVi C h (k := 251) (As := [.int (nI 2)]) (rest := []) (k_X7_those l E hI M (nI 2) n hn hn6) (cwV 1 hts gX7_count_X7_those rfl rfl rfl (by decide +kernel) ⟨Nat.le_of_ble_eq_true rfl, Nat.le_of_ble_eq_true rfl⟩) (by decide) (uc_251 E _) (T := TX7) (N := 17) rfl rfl hl.1 rfl (Nat.le_of_ble_eq_true rfl) dX7_count_83 (fun r_16 M_17 H locs hw_17 h => ?_)
    obtain ⟨hu, er_16⟩ := hw_17
    subst hu
    refine ur_eq (y := nI (mThose M n (nI 2))) er_16 ?_
    exact ur_iret C h hr hlocks (⟨rfl, by unfold mCount; rw [if_neg c_1]; rw [if_neg c_2]; rw [if_neg c_3]; rw [if_neg c_4]; rw [if_neg c_5]; rw [if_neg c_6]; rw [if_neg c_9]; rw [if_neg c_12]; rw [if_pos c_15]; try rfl⟩) dX7_count_86
  rcases Decidable.em (x1 = 9) with c_18 | c_18
  · skip
    refine lv_tableIn (off := 86) (tgt := 87) hx hb dX7_count_1 (by rw [c_18]; decide) (by rw [c_18]; decide) (by rw [c_18]; rfl) (by decide) ?_
    refine lv_aload_n hx hb dX7_count_87 rfl (lv_at hl 0 rfl) ?_
    refine ur_get C h 251 (by decide) (uc_251 E _) (Cn := RX7) (T := TX7) (N := 17) rfl hin7 0 (by decide) (by decide +kernel) rfl dX7_count_88 ?_
    refine lv_bipush (v := 6) hx hb dX7_count_91 (by decide) ?_
    refine ur_iald C h 252 (by decide) (uc_252 E _) (6) (by decide) (by decide) dX7_count_93 ?_
    exact ur_iret C h hr hlocks (⟨rfl, by unfold mCount; rw [if_neg c_1]; rw [if_neg c_2]; rw [if_neg c_3]; rw [if_neg c_4]; rw [if_neg c_5]; rw [if_neg c_6]; rw [if_neg c_9]; rw [if_neg c_12]; rw [if_neg c_15]; rw [if_pos c_18]; try rfl⟩) dX7_count_94
  rcases Decidable.em (x1 = 10) with c_19 | c_19
  · skip
    refine lv_tableIn (off := 94) (tgt := 95) hx hb dX7_count_1 (by rw [c_19]; decide) (by rw [c_19]; decide) (by rw [c_19]; rfl) (by decide) ?_
    refine lv_aload_n hx hb dX7_count_95 rfl (lv_at hl 0 rfl) ?_
    refine ur_get C h 251 (by decide) (uc_251 E _) (Cn := RX7) (T := TX7) (N := 17) rfl hin7 8 (by decide) (by decide +kernel) rfl dX7_count_96 ?_
    exact ur_iret C h hr hlocks (⟨rfl, by unfold mCount; rw [if_neg c_1]; rw [if_neg c_2]; rw [if_neg c_3]; rw [if_neg c_4]; rw [if_neg c_5]; rw [if_neg c_6]; rw [if_neg c_9]; rw [if_neg c_12]; rw [if_neg c_15]; rw [if_neg c_18]; rw [if_pos c_19]; try rfl⟩) dX7_count_99
  have hsw_20 : x1.toInt < 0 ∨ 10 < x1.toInt := uo_sw 0 10 (fun k hk1 hk2 => by
      have hk : k = 0 ∨ k = 1 ∨ k = 2 ∨ k = 3 ∨ k = 4 ∨ k = 5 ∨ k = 6 ∨ k = 7 ∨ k = 8 ∨ k = 9 ∨ k = 10 := by omega
      rcases hk with rfl | rfl | rfl | rfl | rfl | rfl | rfl | rfl | rfl | rfl | rfl
      · exact lv_neT c_1 (by decide)
      · exact lv_neT c_2 (by decide)
      · exact lv_neT c_3 (by decide)
      · exact lv_neT c_4 (by decide)
      · exact lv_neT c_5 (by decide)
      · exact lv_neT c_6 (by decide)
      · exact lv_neT c_9 (by decide)
      · exact lv_neT c_12 (by decide)
      · exact lv_neT c_15 (by decide)
      · exact lv_neT c_18 (by decide)
      · exact lv_neT c_19 (by decide))
  refine lv_tableOut (tgt := 100) hx hb dX7_count_1 hsw_20 (by decide) ?_
  refine lv_iconst (v := (-1)) hx hb dX7_count_100 (by decide) ?_
  exact ur_iret C h hr hlocks (⟨rfl, by unfold mCount; rw [if_neg c_1]; rw [if_neg c_2]; rw [if_neg c_3]; rw [if_neg c_4]; rw [if_neg c_5]; rw [if_neg c_6]; rw [if_neg c_9]; rw [if_neg c_12]; rw [if_neg c_15]; rw [if_neg c_18]; rw [if_neg c_19]; try rfl⟩) dX7_count_101
set_option maxHeartbeats 4000000 in
set_option maxRecDepth 100000 in
theorem k_X7_worn (l : Launch) (E : uE) (hI : uI E) (M : uM) (x1 x2 : Int32) (nw : Nat) (hnw : M.1 252 1 = nI nw) (hnw6 : nw ≤ 6) : Met l yX7_worn wsX7_worn ({ frames := 2, cells := 0, slots := 0, locals := 46 }) (va_Pc [.ref (E.2.1 251), .int x1, .int x2] (uB E M)) (va_Qi (fun r u => M = u ∧ r = if (0 ≤ x1.toInt ∧ x1.toInt < nw) ∧ (0 ≤ x2.toInt ∧ x2.toInt ≤ 1) then M.1 252 (67 + 2 * tn x1 + tn x2) else -1) (uP E) (uA E)) 0 0 (uA E) := by
  have hin7 : ∀ w ∈ wsX70, w ∈ wsX7_worn := by decide +kernel
  refine u_start (cc := cX7_worn) (maxL := 3) (ret := (some .int)) hI (by decide) rfl (Nat.le_of_ble_eq_true rfl) ?_
  intro p_ e_ s_ m_ bl_ me_ c_ C hr hlocks h ls hl
  have hx := C.1.1
  have hb := C.1.2.1
  have hown : s_.vm.findClass RX7 = some m_.cls := C.1.2.2.2.1
  have hts := C.1.2.2.2.2
  have hl : lv_has ls 3 [(0, .ref (E.2.1 251)), (1, .int x1), (2, .int x2)] := hl
  refine lv_aload_n hx hb dX7_worn_0 rfl (lv_at hl 0 rfl) ?_
  refine lv_iload_n hx hb dX7_worn_1 rfl (lv_at hl 1 rfl) ?_
  refine ur_callVi C h (k := 251) (As := [.int x1]) (rest := []) (k_X7_isWord l E hI M x1 nw hnw hnw6) (cwV 1 hts gX7_worn_X7_isWord rfl rfl rfl (by decide +kernel) ⟨Nat.le_of_ble_eq_true rfl, Nat.le_of_ble_eq_true rfl⟩) (by decide) (uc_251 E _) (T := TX7) (N := 17) rfl rfl hl.1 rfl (Nat.le_of_ble_eq_true rfl) dX7_worn_2 (fun r_1 M_2 H locs hw_2 h => ?_)
  obtain ⟨hu, er_1⟩ := hw_2
  subst hu
  refine lv_if_eq (tgt := 34) hx hb dX7_worn_5 (by decide) (fun c_3 => ?_) (fun c_3 => ?_)
  · skip
    have c_3 : ¬ (0 ≤ x1.toInt ∧ x1.toInt < nw) := uz_f er_1 c_3
    refine lv_iconst (v := (-1)) hx hb dX7_worn_34 (by decide) ?_
    exact ur_iret C h hr hlocks (⟨rfl, by rw [if_neg (by omega)]⟩) dX7_worn_35
  · skip
    have c_3 : 0 ≤ x1.toInt ∧ x1.toInt < nw := uz_t er_1 c_3
    refine lv_iload_n hx hb dX7_worn_8 rfl (lv_at hl 2 rfl) ?_
    refine lv_i2l (v := x2.toInt64) hx hb dX7_worn_9 rfl ?_
    refine lv_lconst (v := 0) hx hb dX7_worn_10 (by decide) ?_
    refine lv_lconst (v := 1) hx hb dX7_worn_11 (by decide) ?_
    refine ur_callSi C h (As := [.long x2.toInt64, .long 0, .long 1]) (rest := []) (k_X7_in l E hI M x2.toInt64 0 1) (va_cwS 3 hts gX7_worn_X7_in rfl rfl rfl (by decide +kernel) ⟨Nat.le_of_ble_eq_true rfl, Nat.le_of_ble_eq_true rfl⟩) rfl hl.1 rfl (Nat.le_of_ble_eq_true rfl) dX7_worn_12 (fun r_4 M_5 H locs hw_5 h => ?_)
    obtain ⟨hu, er_4⟩ := hw_5
    subst hu
    have er_4 : r_4 = if 0 ≤ x2.toInt ∧ x2.toInt ≤ 1 then 1 else 0 := u_in (x := x2.toInt) (u_w _) rfl rfl er_4
    refine lv_if_eq (tgt := 34) hx hb dX7_worn_15 (by decide) (fun c_6 => ?_) (fun c_6 => ?_)
    · skip
      have c_6 : ¬ (0 ≤ x2.toInt ∧ x2.toInt ≤ 1) := uz_f er_4 c_6
      refine lv_iconst (v := (-1)) hx hb dX7_worn_34 (by decide) ?_
      exact ur_iret C h hr hlocks (⟨rfl, by rw [if_neg (by omega)]⟩) dX7_worn_35
    · skip
      have c_6 : 0 ≤ x2.toInt ∧ x2.toInt ≤ 1 := uz_t er_4 c_6
      obtain ⟨hnx1, enx1⟩ := u_tn c_3 (by omega)
      obtain ⟨hnx2, enx2⟩ := u_tn (x := x2) (n := 2) ⟨by omega, by omega⟩ (by omega)
      refine lv_aload_n hx hb dX7_worn_18 rfl (lv_at hl 0 rfl) ?_
      refine ur_get C h 251 (by decide) (uc_251 E _) (Cn := RX7) (T := TX7) (N := 17) rfl hin7 0 (by decide) (by decide +kernel) rfl dX7_worn_19 ?_
      refine lv_bipush (v := 67) hx hb dX7_worn_22 (by decide) ?_
      refine lv_iconst (v := 2) hx hb dX7_worn_24 (by decide) ?_
      refine lv_iload_n hx hb dX7_worn_25 rfl (lv_at hl 1 rfl) ?_
      refine ur_eq (y := nI (tn x1)) enx1 ?_
      refine lv_imul hx hb dX7_worn_26 ?_
      refine ur_eq (y := nI (2 * (tn x1))) (pk_mul 2 (tn x1)) ?_
      refine lv_iadd hx hb dX7_worn_27 ?_
      refine ur_eq (y := nI (67 + 2 * (tn x1))) (nI_add 67 (2 * (tn x1))) ?_
      refine lv_iload_n hx hb dX7_worn_28 rfl (lv_at hl 2 rfl) ?_
      refine ur_eq (y := nI (tn x2)) enx2 ?_
      refine lv_iadd hx hb dX7_worn_29 ?_
      refine ur_eq (y := nI (67 + 2 * (tn x1) + tn x2)) (nI_add (67 + 2 * (tn x1)) (tn x2)) ?_
      refine ur_iald C h 252 (by decide) (uc_252 E _) (67 + 2 * (tn x1) + tn x2) (by omega) (by decide) dX7_worn_30 ?_
      refine lv_goto (tgt := 35) hx hb dX7_worn_31 (by decide) ?_
      exact ur_iret C h hr hlocks (⟨rfl, by rw [if_pos (by omega)]⟩) dX7_worn_35
set_option maxHeartbeats 4000000 in
set_option maxRecDepth 100000 in
theorem k_X7_type (l : Launch) (E : uE) (hI : uI E) (M : uM) (x1 : Int32) (ty : Nat) (hty : M.1 251 2 = nI ty) (hty90 : ty ≤ 90) : Met l yX7_type wsX7_type ({ frames := 1, cells := 0, slots := 0, locals := 25 }) (va_Pc [.ref (E.2.1 251), .int x1] (uB E M)) (va_Qi (fun r u => if 32 ≤ x1.toInt ∧ x1.toInt ≤ 126 then (if ty = 90 then r = -3 ∧ M = u else u = uSet (uSet M 253 ty x1) 251 2 (nI (ty + 1)) ∧ r = nI (ty + 1)) else r = -1 ∧ M = u) (uP E) (uA E)) 0 0 (uA E) := by
  have hin7 : ∀ w ∈ wsX70, w ∈ wsX7_type := by decide +kernel
  refine u_start (cc := cX7_type) (maxL := 2) (ret := (some .int)) hI (by decide) rfl (Nat.le_of_ble_eq_true rfl) ?_
  intro p_ e_ s_ m_ bl_ me_ c_ C hr hlocks h ls hl
  have hx := C.1.1
  have hb := C.1.2.1
  have hown : s_.vm.findClass RX7 = some m_.cls := C.1.2.2.2.1
  have hts := C.1.2.2.2.2
  have hl : lv_has ls 2 [(0, .ref (E.2.1 251)), (1, .int x1)] := hl
  refine lv_iload_n hx hb dX7_type_0 rfl (lv_at hl 1 rfl) ?_
  refine lv_i2l (v := x1.toInt64) hx hb dX7_type_1 rfl ?_
  refine lv_ldc2 (v := 32) hx hb hown (hts (.constantLong RX7 106 32) (by decide +kernel)) dX7_type_2 ?_
  refine lv_ldc2 (v := 126) hx hb hown (hts (.constantLong RX7 108 126) (by decide +kernel)) dX7_type_5 ?_
  refine ur_callSi C h (As := [.long x1.toInt64, .long 32, .long 126]) (rest := []) (k_X7_in l E hI M x1.toInt64 32 126) (va_cwS 3 hts gX7_type_X7_in rfl rfl rfl (by decide +kernel) ⟨Nat.le_of_ble_eq_true rfl, Nat.le_of_ble_eq_true rfl⟩) rfl hl.1 rfl (Nat.le_of_ble_eq_true rfl) dX7_type_8 (fun r_1 M_2 H locs hw_2 h => ?_)
  obtain ⟨hu, er_1⟩ := hw_2
  subst hu
  have er_1 : r_1 = if 32 ≤ x1.toInt ∧ x1.toInt ≤ 126 then 1 else 0 := u_in (x := x1.toInt) (u_w _) rfl rfl er_1
  refine lv_if_ne (tgt := 16) hx hb dX7_type_11 (by decide) (fun c_3 => ?_) (fun c_3 => ?_)
  · skip
    have c_3 : 32 ≤ x1.toInt ∧ x1.toInt ≤ 126 := uz_t er_1 c_3
    refine lv_aload_n hx hb dX7_type_16 rfl (lv_at hl 0 rfl) ?_
    refine ur_get C h 251 (by decide) (uc_251 E _) (Cn := RX7) (T := TX7) (N := 17) rfl hin7 2 (by decide) (by decide +kernel) rfl dX7_type_17 ?_
    refine ur_eq (y := nI ty) (hty) ?_
    refine lv_bipush (v := 90) hx hb dX7_type_20 (by decide) ?_
    refine lv_icmp_ne (tgt := 28) hx hb dX7_type_22 (by decide) (fun c_4 => ?_) (fun c_4 => ?_)
    · skip
      have c_4 : ¬ ty = 90 := fun z => c_4 ((nI_eq (a := ty) (b := 90) (by omega) (by omega)).mpr z)
      refine lv_aload_n hx hb dX7_type_28 rfl (lv_at hl 0 rfl) ?_
      refine ur_get C h 251 (by decide) (uc_251 E _) (Cn := RX7) (T := TX7) (N := 17) rfl hin7 1 (by decide) (by decide +kernel) rfl dX7_type_29 ?_
      refine lv_aload_n hx hb dX7_type_32 rfl (lv_at hl 0 rfl) ?_
      refine ur_get C h 251 (by decide) (uc_251 E _) (Cn := RX7) (T := TX7) (N := 17) rfl hin7 2 (by decide) (by decide +kernel) rfl dX7_type_33 ?_
      refine ur_eq (y := nI ty) (hty) ?_
      refine lv_iload_n hx hb dX7_type_36 rfl (lv_at hl 1 rfl) ?_
      refine ur_iast C h 253 (by decide) (uc_253 E) (ty) (by omega) (by decide) dX7_type_37 (fun M_5 H locs eM_5 h => ?_)
      refine lv_aload_n hx hb dX7_type_38 rfl (lv_at hl 0 rfl) ?_
      refine lv_dup hx hb dX7_type_39 rfl ?_
      refine ur_get C h 251 (by decide) (uc_251 E _) (Cn := RX7) (T := TX7) (N := 17) rfl hin7 2 (by decide) (by decide +kernel) rfl dX7_type_40 ?_
      refine ur_eq (y := nI ty) (by rw [eM_5, u_set1, if_neg (by decide)]; exact hty) ?_
      refine lv_iconst (v := 1) hx hb dX7_type_43 (by decide) ?_
      refine lv_iadd hx hb dX7_type_44 ?_
      refine ur_eq (y := nI (ty + 1)) (nI_add ty 1) ?_
      refine ur_puti C h 251 (by decide) (uc_251 E _) (Cn := RX7) (T := TX7) (N := 17) rfl hin7 tyX7 tyX7_ok nmX7 2 (by decide) (by decide +kernel) rfl rfl rfl (Nat.le_of_ble_eq_true rfl) (us_251_2 E _ _) dX7_type_45 (fun M_6 H locs eM_6 h => ?_)
      refine lv_aload_n hx hb dX7_type_48 rfl (lv_at hl 0 rfl) ?_
      refine ur_get C h 251 (by decide) (uc_251 E _) (Cn := RX7) (T := TX7) (N := 17) rfl hin7 2 (by decide) (by decide +kernel) rfl dX7_type_49 ?_
      refine ur_eq (y := nI (ty + 1)) (by rw [eM_6, u_set1, if_pos rfl, if_pos rfl]; try rfl) ?_
      exact ur_iret C h hr hlocks (by rw [if_pos (by omega), if_neg (by omega)]; subst eM_5; subst eM_6; exact ⟨rfl, rfl⟩) dX7_type_52
    · skip
      have c_4 : ty = 90 := (nI_eq (a := ty) (b := 90) (by omega) (by omega)).mp c_4
      refine lv_bipush (v := (-3)) hx hb dX7_type_25 (by decide) ?_
      exact ur_iret C h hr hlocks (by rw [if_pos (by omega), if_pos (by omega)]; exact ⟨rfl, rfl⟩) dX7_type_27
  · skip
    have c_3 : ¬ (32 ≤ x1.toInt ∧ x1.toInt ≤ 126) := uz_f er_1 c_3
    refine lv_iconst (v := (-1)) hx hb dX7_type_14 (by decide) ?_
    exact ur_iret C h hr hlocks (by rw [if_neg (by omega)]; exact ⟨rfl, rfl⟩) dX7_type_15
