set_option maxHeartbeats 4000000 in
set_option maxRecDepth 100000 in
theorem k_X7_notes (l : Launch) (E : uE) (hI : uI E) (M : uM) (k : Nat) (hk : M.1 251 8 = nI k) (hk8 : k ≤ 8) : Met l yX7_notes wsX7_notes ({ frames := 0, cells := 0, slots := 0, locals := 0 }) (va_Pc [.ref (E.2.1 251)] (uB E M)) (va_Qv (fun u => u = mNotes M k) (uP E) (uA E)) 0 0 (uA E) := by
  have hin7 : ∀ w ∈ wsX70, w ∈ wsX7_notes := by decide +kernel
  refine u_start (cc := cX7_notes) (maxL := 2) (ret := none) hI (by decide) rfl (Nat.le_of_ble_eq_true rfl) ?_
  intro p_ e_ s_ m_ bl_ me_ c_ C hr hlocks h ls hl
  have hx := C.1.1
  have hb := C.1.2.1
  have hown : s_.vm.findClass RX7 = some m_.cls := C.1.2.2.2.1
  have hts := C.1.2.2.2.2
  have hl : lv_has ls 2 [(0, .ref (E.2.1 251))] := hl
  refine lv_aload_n hx hb dX7_notes_0 rfl (lv_at hl 0 rfl) ?_
  refine ur_get C h 251 (by decide) (uc_251 E _) (Cn := RX7) (T := TX7) (N := 17) rfl hin7 8 (by decide) (by decide +kernel) rfl dX7_notes_1 ?_
  refine ur_eq (y := nI k) (hk) ?_
  refine lv_bipush (v := 8) hx hb dX7_notes_4 (by decide) ?_
  refine lv_icmp_ne (tgt := 46) hx hb dX7_notes_6 (by decide) (fun c_1 => ?_) (fun c_1 => ?_)
  · skip
    have c_1 : ¬ k = 8 := fun z => c_1 ((nI_eq (a := k) (b := 8) (by omega) (by omega)).mpr z)
    refine lv_iconst (v := 0) hx hb dX7_notes_46 (by decide) ?_
    refine lv_istore_n (lv' := [(1, .int 0), (0, .ref (E.2.1 251))]) hx hb dX7_notes_47 rfl hl (by decide) rfl (fun ls hl => ?_)
    have lp48 : ∀ (n48 : Nat) (i2 : Nat) (Mi2 : uM), 115 - i2 < n48 → i2 ≤ 115 → Mi2 = uRow M 256 (va_cpy (M.1 252) (M.1 256) 0 (115 * k) i2) → ∀ (H : Heap) (locs : List Loc) (ls : Array Slot), uH E Mi2 s_ H locs → lv_has ls 2 [(1, .int (nI i2)), (0, .ref (E.2.1 251))] → W p_ l e_ ({ frames := 0, cells := 0, slots := 0, locals := 0 }) s_ m_ (List.toArray [.ref (E.2.1 251)]) bl_ me_ c_ H locs 0 0 (MQ bl_ (va_Qv (fun u => u = mNotes M k) (uP E) (uA E)) (List.toArray [.ref (E.2.1 251)]) s_ 0 0 (uA E)) (F0 m_ 48 ls []) := by
      intro n48
      induction n48 with
      | zero => intro i2 Mi2 hms; exact absurd hms (Nat.not_lt_zero _)
      | succ n48 ih48 =>
        intro i2 Mi2 hms48 hi2 hMi2 H locs ls h hl
        refine lv_iload_n hx hb dX7_notes_48 rfl (lv_at hl 0 rfl) ?_
        refine lv_bipush (v := 115) hx hb dX7_notes_49 (by decide) ?_
        refine lv_icmp_ge (tgt := 80) hx hb dX7_notes_51 (by decide) (fun c_2 => ?_) (fun c_2 => ?_)
        · skip
          have c_2 : 115 ≤ i2 := (nI_leI (a := 115) (b := i2) (by omega) (by omega)).mp c_2
          refine lv_aload_n hx hb dX7_notes_80 rfl (lv_at hl 1 rfl) ?_
          refine lv_dup hx hb dX7_notes_81 rfl ?_
          refine ur_get C h 251 (by decide) (uc_251 E _) (Cn := RX7) (T := TX7) (N := 17) rfl hin7 8 (by decide) (by decide +kernel) rfl dX7_notes_82 ?_
          refine ur_eq (y := nI k) ((by rw [hMi2, u_row1, if_neg (by decide)]; exact hk)) ?_
          refine lv_iconst (v := 1) hx hb dX7_notes_85 (by decide) ?_
          refine lv_iadd hx hb dX7_notes_86 ?_
          refine ur_eq (y := nI (k + 1)) (nI_add k 1) ?_
          refine ur_puti C h 251 (by decide) (uc_251 E _) (Cn := RX7) (T := TX7) (N := 17) rfl hin7 tyX7 tyX7_ok nmX7 8 (by decide) (by decide +kernel) rfl rfl rfl (Nat.le_of_ble_eq_true rfl) (us_251_8 E _ _) dX7_notes_87 (fun M_3 H locs eM_3 h => ?_)
          exact ur_vret C h hr hlocks (by unfold mNotes; rw [if_neg (by omega)]; subst eM_3; rw [hMi2, show i2 = 115 by omega]) dX7_notes_90
        · skip
          have c_2 : ¬ 115 ≤ i2 := fun z => c_2 ((nI_leI (a := 115) (b := i2) (by omega) (by omega)).mpr z)
          refine lv_aload_n hx hb dX7_notes_54 rfl (lv_at hl 1 rfl) ?_
          refine ur_get C h 251 (by decide) (uc_251 E _) (Cn := RX7) (T := TX7) (N := 17) rfl hin7 7 (by decide) (by decide +kernel) rfl dX7_notes_55 ?_
          refine lv_bipush (v := 115) hx hb dX7_notes_58 (by decide) ?_
          refine lv_aload_n hx hb dX7_notes_60 rfl (lv_at hl 1 rfl) ?_
          refine ur_get C h 251 (by decide) (uc_251 E _) (Cn := RX7) (T := TX7) (N := 17) rfl hin7 8 (by decide) (by decide +kernel) rfl dX7_notes_61 ?_
          refine ur_eq (y := nI k) ((by rw [hMi2, u_row1, if_neg (by decide)]; exact hk)) ?_
          refine lv_imul hx hb dX7_notes_64 ?_
          refine ur_eq (y := nI (115 * k)) (pk_mul 115 k) ?_
          refine lv_iload_n hx hb dX7_notes_65 rfl (lv_at hl 0 rfl) ?_
          refine lv_iadd hx hb dX7_notes_66 ?_
          refine ur_eq (y := nI (115 * k + i2)) (nI_add (115 * k) i2) ?_
          refine lv_aload_n hx hb dX7_notes_67 rfl (lv_at hl 1 rfl) ?_
          refine ur_get C h 251 (by decide) (uc_251 E _) (Cn := RX7) (T := TX7) (N := 17) rfl hin7 0 (by decide) (by decide +kernel) rfl dX7_notes_68 ?_
          refine lv_iload_n hx hb dX7_notes_71 rfl (lv_at hl 0 rfl) ?_
          refine ur_iald C h 252 (by decide) (uc_252 E _) (i2) (by omega) (by decide) dX7_notes_72 ?_
          refine ur_iast C h 256 (by decide) (uc_256 E) (115 * k + i2) (by omega) (by decide) dX7_notes_73 (fun M_4 H locs eM_4 h => ?_)
          refine lv_iinc (v := nI (i2 + 1)) (lv' := [(1, .int (nI (i2 + 1))), (0, .ref (E.2.1 251))]) hx hb dX7_notes_74 hl (k := 0) rfl (nI_add i2 1) (by decide) rfl (fun ls hl => ?_)
          refine lv_goto (tgt := 48) hx hb dX7_notes_77 (by decide) ?_
          exact ih48  (i2 + 1) M_4 (by omega) (by omega) (by rw [eM_4, hMi2]; exact u_cpS (by omega) (by rw [u_row1, if_neg (by decide)]; exact congrArg _ (by omega))) _ _ _ h (lv_sub hl [0, 1] rfl)
    exact lp48 _ 0 M (Nat.lt_succ_self _) (by omega) u_cp0 _ _ _ h (lv_sub hl [0, 1] rfl)
  · skip
    have c_1 : k = 8 := (nI_eq (a := k) (b := 8) (by omega) (by omega)).mp c_1
    refine lv_bipush (v := 115) hx hb dX7_notes_9 (by decide) ?_
    refine lv_istore_n (lv' := [(1, .int 115), (0, .ref (E.2.1 251))]) hx hb dX7_notes_11 rfl hl (by decide) rfl (fun ls hl => ?_)
    have lp12 : ∀ (n12 : Nat) (i : Nat) (Mi : uM), 805 - i < n12 → i ≤ 805 → Mi = uRow M 256 (va_cpy (M.1 256) (M.1 256) 115 0 i) → ∀ (H : Heap) (locs : List Loc) (ls : Array Slot), uH E Mi s_ H locs → lv_has ls 2 [(1, .int (nI (115 + i))), (0, .ref (E.2.1 251))] → W p_ l e_ ({ frames := 0, cells := 0, slots := 0, locals := 0 }) s_ m_ (List.toArray [.ref (E.2.1 251)]) bl_ me_ c_ H locs 0 0 (MQ bl_ (va_Qv (fun u => u = mNotes M k) (uP E) (uA E)) (List.toArray [.ref (E.2.1 251)]) s_ 0 0 (uA E)) (F0 m_ 12 ls []) := by
      intro n12
      induction n12 with
      | zero => intro i Mi hms; exact absurd hms (Nat.not_lt_zero _)
      | succ n12 ih12 =>
        intro i Mi hms12 hi hMi H locs ls h hl
        refine lv_iload_n hx hb dX7_notes_12 rfl (lv_at hl 0 rfl) ?_
        refine lv_sipush (v := 920) hx hb dX7_notes_13 (by decide) ?_
        refine lv_icmp_ge (tgt := 40) hx hb dX7_notes_16 (by decide) (fun c_5 => ?_) (fun c_5 => ?_)
        · skip
          have c_5 : 920 ≤ (115 + i) := (nI_leI (a := 920) (b := (115 + i)) (by omega) (by omega)).mp c_5
          refine lv_aload_n hx hb dX7_notes_40 rfl (lv_at hl 1 rfl) ?_
          refine lv_bipush (v := 7) hx hb dX7_notes_41 (by decide) ?_
          refine ur_puti C h 251 (by decide) (uc_251 E _) (Cn := RX7) (T := TX7) (N := 17) rfl hin7 tyX7 tyX7_ok nmX7 8 (by decide) (by decide +kernel) rfl rfl rfl (Nat.le_of_ble_eq_true rfl) (us_251_8 E _ _) dX7_notes_43 (fun M_6 H locs eM_6 h => ?_)
          refine lv_iconst (v := 0) hx hb dX7_notes_46 (by decide) ?_
          refine lv_istore_n (lv' := [(1, .int 0), (0, .ref (E.2.1 251))]) hx hb dX7_notes_47 rfl hl (by decide) rfl (fun ls hl => ?_)
          have lp48 : ∀ (n48 : Nat) (i2 : Nat) (Mi2 : uM), 115 - i2 < n48 → i2 ≤ 115 → Mi2 = uRow M_6 256 (va_cpy (M_6.1 252) (M_6.1 256) 0 (805) i2) → ∀ (H : Heap) (locs : List Loc) (ls : Array Slot), uH E Mi2 s_ H locs → lv_has ls 2 [(1, .int (nI i2)), (0, .ref (E.2.1 251))] → W p_ l e_ ({ frames := 0, cells := 0, slots := 0, locals := 0 }) s_ m_ (List.toArray [.ref (E.2.1 251)]) bl_ me_ c_ H locs 0 0 (MQ bl_ (va_Qv (fun u => u = mNotes M k) (uP E) (uA E)) (List.toArray [.ref (E.2.1 251)]) s_ 0 0 (uA E)) (F0 m_ 48 ls []) := by
            intro n48
            induction n48 with
            | zero => intro i2 Mi2 hms; exact absurd hms (Nat.not_lt_zero _)
            | succ n48 ih48 =>
              intro i2 Mi2 hms48 hi2 hMi2 H locs ls h hl
              refine lv_iload_n hx hb dX7_notes_48 rfl (lv_at hl 0 rfl) ?_
              refine lv_bipush (v := 115) hx hb dX7_notes_49 (by decide) ?_
              refine lv_icmp_ge (tgt := 80) hx hb dX7_notes_51 (by decide) (fun c_7 => ?_) (fun c_7 => ?_)
              · skip
                have c_7 : 115 ≤ i2 := (nI_leI (a := 115) (b := i2) (by omega) (by omega)).mp c_7
                refine lv_aload_n hx hb dX7_notes_80 rfl (lv_at hl 1 rfl) ?_
                refine lv_dup hx hb dX7_notes_81 rfl ?_
                refine ur_get C h 251 (by decide) (uc_251 E _) (Cn := RX7) (T := TX7) (N := 17) rfl hin7 8 (by decide) (by decide +kernel) rfl dX7_notes_82 ?_
                refine ur_eq (y := nI 7) ((by rw [hMi2, u_row1, if_neg (by decide)]; rw [eM_6, u_set1, if_pos rfl, if_pos rfl]; try rfl)) ?_
                refine lv_iconst (v := 1) hx hb dX7_notes_85 (by decide) ?_
                refine lv_iadd hx hb dX7_notes_86 ?_
                refine ur_eq (y := nI (8)) (nI_add 7 1) ?_
                refine ur_puti C h 251 (by decide) (uc_251 E _) (Cn := RX7) (T := TX7) (N := 17) rfl hin7 tyX7 tyX7_ok nmX7 8 (by decide) (by decide +kernel) rfl rfl rfl (Nat.le_of_ble_eq_true rfl) (us_251_8 E _ _) dX7_notes_87 (fun M_8 H locs eM_8 h => ?_)
                exact ur_vret C h hr hlocks (by unfold mNotes; rw [if_pos (by omega)]; subst eM_6; subst eM_8; rw [hMi2, hMi, show i2 = 115 by omega, show i = 805 by omega]; try rfl) dX7_notes_90
              · skip
                have c_7 : ¬ 115 ≤ i2 := fun z => c_7 ((nI_leI (a := 115) (b := i2) (by omega) (by omega)).mpr z)
                refine lv_aload_n hx hb dX7_notes_54 rfl (lv_at hl 1 rfl) ?_
                refine ur_get C h 251 (by decide) (uc_251 E _) (Cn := RX7) (T := TX7) (N := 17) rfl hin7 7 (by decide) (by decide +kernel) rfl dX7_notes_55 ?_
                refine lv_bipush (v := 115) hx hb dX7_notes_58 (by decide) ?_
                refine lv_aload_n hx hb dX7_notes_60 rfl (lv_at hl 1 rfl) ?_
                refine ur_get C h 251 (by decide) (uc_251 E _) (Cn := RX7) (T := TX7) (N := 17) rfl hin7 8 (by decide) (by decide +kernel) rfl dX7_notes_61 ?_
                refine ur_eq (y := nI 7) ((by rw [hMi2, u_row1, if_neg (by decide)]; rw [eM_6, u_set1, if_pos rfl, if_pos rfl]; try rfl)) ?_
                refine lv_imul hx hb dX7_notes_64 ?_
                refine ur_eq (y := nI (805)) (pk_mul 115 7) ?_
                refine lv_iload_n hx hb dX7_notes_65 rfl (lv_at hl 0 rfl) ?_
                refine lv_iadd hx hb dX7_notes_66 ?_
                refine ur_eq (y := nI (805 + i2)) (nI_add 805 i2) ?_
                refine lv_aload_n hx hb dX7_notes_67 rfl (lv_at hl 1 rfl) ?_
                refine ur_get C h 251 (by decide) (uc_251 E _) (Cn := RX7) (T := TX7) (N := 17) rfl hin7 0 (by decide) (by decide +kernel) rfl dX7_notes_68 ?_
                refine lv_iload_n hx hb dX7_notes_71 rfl (lv_at hl 0 rfl) ?_
                refine ur_iald C h 252 (by decide) (uc_252 E _) (i2) (by omega) (by decide) dX7_notes_72 ?_
                refine ur_iast C h 256 (by decide) (uc_256 E) (805 + i2) (by omega) (by decide) dX7_notes_73 (fun M_9 H locs eM_9 h => ?_)
                refine lv_iinc (v := nI (i2 + 1)) (lv' := [(1, .int (nI (i2 + 1))), (0, .ref (E.2.1 251))]) hx hb dX7_notes_74 hl (k := 0) rfl (nI_add i2 1) (by decide) rfl (fun ls hl => ?_)
                refine lv_goto (tgt := 48) hx hb dX7_notes_77 (by decide) ?_
                exact ih48  (i2 + 1) M_9 (by omega) (by omega) (by rw [eM_9, hMi2]; exact u_cpS (by omega) (by rw [u_row1, if_neg (by decide)]; exact congrArg _ (by omega))) _ _ _ h (lv_sub hl [0, 1] rfl)
          exact lp48 _ 0 M_6 (Nat.lt_succ_self _) (by omega) u_cp0 _ _ _ h (lv_sub hl [0, 1] rfl)
        · skip
          have c_5 : ¬ 920 ≤ (115 + i) := fun z => c_5 ((nI_leI (a := 920) (b := (115 + i)) (by omega) (by omega)).mpr z)
          refine lv_aload_n hx hb dX7_notes_19 rfl (lv_at hl 1 rfl) ?_
          refine ur_get C h 251 (by decide) (uc_251 E _) (Cn := RX7) (T := TX7) (N := 17) rfl hin7 7 (by decide) (by decide +kernel) rfl dX7_notes_20 ?_
          refine lv_iload_n hx hb dX7_notes_23 rfl (lv_at hl 0 rfl) ?_
          refine lv_bipush (v := 115) hx hb dX7_notes_24 (by decide) ?_
          refine lv_isub hx hb dX7_notes_26 ?_
          refine ur_eq (y := nI (i)) ((pk_sub (a := 115 + i) (b := 115) (by omega)).trans (congrArg nI (by omega))) ?_
          refine lv_aload_n hx hb dX7_notes_27 rfl (lv_at hl 1 rfl) ?_
          refine ur_get C h 251 (by decide) (uc_251 E _) (Cn := RX7) (T := TX7) (N := 17) rfl hin7 7 (by decide) (by decide +kernel) rfl dX7_notes_28 ?_
          refine lv_iload_n hx hb dX7_notes_31 rfl (lv_at hl 0 rfl) ?_
          refine ur_iald C h 256 (by decide) (uc_256 E _) (115 + i) (by omega) (by decide) dX7_notes_32 ?_
          refine ur_iast C h 256 (by decide) (uc_256 E) (i) (by omega) (by decide) dX7_notes_33 (fun M_10 H locs eM_10 h => ?_)
          refine lv_iinc (v := nI (115 + i + 1)) (lv' := [(1, .int (nI (115 + i + 1))), (0, .ref (E.2.1 251))]) hx hb dX7_notes_34 hl (k := 0) rfl (nI_add (115 + i) 1) (by decide) rfl (fun ls hl => ?_)
          refine lv_goto (tgt := 12) hx hb dX7_notes_37 (by decide) ?_
          exact ih12  (i + 1) M_10 (by omega) (by omega) (by rw [eM_10, hMi]; exact u_cpS (by omega) (by rw [u_row1, if_pos rfl, pk_cpy_out (by omega)])) _ _ _ h (lv_sub hl [0, 1] rfl)
    exact lp12 _ 0 M (Nat.lt_succ_self _) (by omega) u_cp0 _ _ _ h (lv_sub hl [0, 1] rfl)
set_option maxHeartbeats 4000000 in
set_option maxRecDepth 100000 in
theorem k_X7_whyNot (l : Launch) (E : uE) (hI : uI E) (M : uM) (x1 x2 : Int32) (n : Nat) (hn : M.1 252 0 = nI n) (hn6 : n ≤ 6) (nw : Nat) (hnw : M.1 252 1 = nI nw) (hnw6 : nw ≤ 6) : Met l yX7_whyNot wsX7_whyNot ({ frames := 2, cells := 0, slots := 0, locals := 46 }) (va_Pc [.ref (E.2.1 251), .int x1, .int x2] (uB E M)) (va_Qi (fun r u => M = u ∧ r = mWhy M n nw x1 x2) (uP E) (uA E)) 0 0 (uA E) := by
  have hin7 : ∀ w ∈ wsX70, w ∈ wsX7_whyNot := by decide +kernel
  refine u_start (cc := cX7_whyNot) (maxL := 3) (ret := (some .int)) hI (by decide) rfl (Nat.le_of_ble_eq_true rfl) ?_
  intro p_ e_ s_ m_ bl_ me_ c_ C hr hlocks h ls hl
  have hx := C.1.1
  have hb := C.1.2.1
  have hown : s_.vm.findClass RX7 = some m_.cls := C.1.2.2.2.1
  have hts := C.1.2.2.2.2
  have hl : lv_has ls 3 [(0, .ref (E.2.1 251)), (1, .int x1), (2, .int x2)] := hl
  refine lv_aload_n hx hb dX7_whyNot_0 rfl (lv_at hl 0 rfl) ?_
  refine lv_iload_n hx hb dX7_whyNot_1 rfl (lv_at hl 1 rfl) ?_
  refine ur_callVi C h (k := 251) (As := [.int x1]) (rest := []) (k_X7_isSpeaker l E hI M x1 n hn hn6) (cwV 1 hts gX7_whyNot_X7_isSpeaker rfl rfl rfl (by decide +kernel) ⟨Nat.le_of_ble_eq_true rfl, Nat.le_of_ble_eq_true rfl⟩) (by decide) (uc_251 E _) (T := TX7) (N := 17) rfl rfl hl.1 rfl (Nat.le_of_ble_eq_true rfl) dX7_whyNot_2 (fun r_1 M_2 H locs hw_2 h => ?_)
  obtain ⟨hu, er_1⟩ := hw_2
  subst hu
  refine lv_if_eq (tgt := 16) hx hb dX7_whyNot_5 (by decide) (fun c_3 => ?_) (fun c_3 => ?_)
  · skip
    have c_3 : ¬ (0 ≤ x1.toInt ∧ x1.toInt < n) := uz_f er_1 c_3
    refine lv_iconst (v := (-1)) hx hb dX7_whyNot_16 (by decide) ?_
    exact ur_iret C h hr hlocks (⟨rfl, by unfold mWhy mFate; rw [if_neg (by omega)]⟩) dX7_whyNot_17
  · skip
    have c_3 : 0 ≤ x1.toInt ∧ x1.toInt < n := uz_t er_1 c_3
    refine lv_aload_n hx hb dX7_whyNot_8 rfl (lv_at hl 0 rfl) ?_
    refine lv_iload_n hx hb dX7_whyNot_9 rfl (lv_at hl 2 rfl) ?_
    refine ur_callVi C h (k := 251) (As := [.int x2]) (rest := []) (k_X7_isWord l E hI M x2 nw hnw hnw6) (cwV 1 hts gX7_whyNot_X7_isWord rfl rfl rfl (by decide +kernel) ⟨Nat.le_of_ble_eq_true rfl, Nat.le_of_ble_eq_true rfl⟩) (by decide) (uc_251 E _) (T := TX7) (N := 17) rfl rfl hl.1 rfl (Nat.le_of_ble_eq_true rfl) dX7_whyNot_10 (fun r_4 M_5 H locs hw_5 h => ?_)
    obtain ⟨hu, er_4⟩ := hw_5
    subst hu
    refine lv_if_ne (tgt := 18) hx hb dX7_whyNot_13 (by decide) (fun c_6 => ?_) (fun c_6 => ?_)
    · skip
      have c_6 : 0 ≤ x2.toInt ∧ x2.toInt < nw := uz_t er_4 c_6
      obtain ⟨hnx1, enx1⟩ := u_tn c_3 (by omega)
      refine lv_aload_n hx hb dX7_whyNot_18 rfl (lv_at hl 0 rfl) ?_
      refine lv_iload_n hx hb dX7_whyNot_19 rfl (lv_at hl 1 rfl) ?_
      refine ur_eq (y := nI (tn x1)) enx1 ?_
      refine lv_iconst (v := 2) hx hb dX7_whyNot_20 (by decide) ?_
      refine ur_callVi C h (k := 251) (As := [.int (nI (tn x1)), .int 2]) (rest := []) (k_X7_told l E hI M (tn x1) 2 (by omega)) (cwV 2 hts gX7_whyNot_X7_told rfl rfl rfl (by decide +kernel) ⟨Nat.le_of_ble_eq_true rfl, Nat.le_of_ble_eq_true rfl⟩) (by decide) (uc_251 E _) (T := TX7) (N := 17) rfl rfl hl.1 rfl (Nat.le_of_ble_eq_true rfl) dX7_whyNot_21 (fun r_7 M_8 H locs hw_8 h => ?_)
      obtain ⟨hu, er_7⟩ := hw_8
      subst hu
      refine ur_eq (y := M.1 252 (7 + 10 * (tn x1) + 2)) er_7 ?_
      refine lv_if_eq (tgt := 32) hx hb dX7_whyNot_24 (by decide) (fun c_9 => ?_) (fun c_9 => ?_)
      · skip
        refine lv_aload_n hx hb dX7_whyNot_32 rfl (lv_at hl 0 rfl) ?_
        refine ur_get C h 251 (by decide) (uc_251 E _) (Cn := RX7) (T := TX7) (N := 17) rfl hin7 0 (by decide) (by decide +kernel) rfl dX7_whyNot_33 ?_
        refine lv_iconst (v := 4) hx hb dX7_whyNot_36 (by decide) ?_
        refine ur_iald C h 252 (by decide) (uc_252 E _) (4) (by decide) (by decide) dX7_whyNot_37 ?_
        refine lv_sipush (v := 9999) hx hb dX7_whyNot_38 (by decide) ?_
        refine lv_icmp_ne (tgt := 49) hx hb dX7_whyNot_41 (by decide) (fun c_10 => ?_) (fun c_10 => ?_)
        · skip
          refine lv_iconst (v := 0) hx hb dX7_whyNot_49 (by decide) ?_
          exact ur_iret C h hr hlocks (⟨rfl, by unfold mWhy mFate; rw [if_pos (by omega)]; simp [c_9, c_10]⟩) dX7_whyNot_50
        · skip
          refine lv_bipush (v := (-3)) hx hb dX7_whyNot_44 (by decide) ?_
          refine lv_goto (tgt := 50) hx hb dX7_whyNot_46 (by decide) ?_
          exact ur_iret C h hr hlocks (⟨rfl, by unfold mWhy mFate; rw [if_pos (by omega)]; simp [c_9, c_10]⟩) dX7_whyNot_50
      · skip
        refine lv_bipush (v := (-2)) hx hb dX7_whyNot_27 (by decide) ?_
        refine lv_goto (tgt := 50) hx hb dX7_whyNot_29 (by decide) ?_
        exact ur_iret C h hr hlocks (⟨rfl, by unfold mWhy mFate; rw [if_pos (by omega)]; simp [c_6, c_9]⟩) dX7_whyNot_50
    · skip
      have c_6 : ¬ (0 ≤ x2.toInt ∧ x2.toInt < nw) := uz_f er_4 c_6
      refine lv_iconst (v := (-1)) hx hb dX7_whyNot_16 (by decide) ?_
      exact ur_iret C h hr hlocks (⟨rfl, by unfold mWhy mFate; rw [if_neg (by omega)]⟩) dX7_whyNot_17
set_option maxHeartbeats 4000000 in
set_option maxRecDepth 100000 in
theorem k_X7_asks (l : Launch) (E : uE) (hI : uI E) (M : uM) (p w : Nat) (ps came : Int32) (hp : p < 6) (hw : w < 6) (b : Nat) (hbk : M.1 252 6 = nI b) (hb12 : b ≤ 12) : Met l yX7_asks wsX7_asks ({ frames := 0, cells := 0, slots := 0, locals := 0 }) (va_Pc [.ref (E.2.1 251), .int (nI p), .int (nI w), .int ps, .int came] (uB E M)) (va_Qv (fun u => u = mAsks M b p w ps came) (uP E) (uA E)) 0 0 (uA E) := by
  have hin7 : ∀ w ∈ wsX70, w ∈ wsX7_asks := by decide +kernel
  refine u_start (cc := cX7_asks) (maxL := 6) (ret := none) hI (by decide) rfl (Nat.le_of_ble_eq_true rfl) ?_
  intro p_ e_ s_ m_ bl_ me_ c_ C hr hlocks h ls hl
  have hx := C.1.1
  have hb := C.1.2.1
  have hown : s_.vm.findClass RX7 = some m_.cls := C.1.2.2.2.1
  have hts := C.1.2.2.2.2
  have hl : lv_has ls 6 [(0, .ref (E.2.1 251)), (1, .int (nI p)), (2, .int (nI w)), (3, .int ps), (4, .int came)] := hl
  refine lv_aload_n hx hb dX7_asks_0 rfl (lv_at hl 0 rfl) ?_
  refine ur_get C h 251 (by decide) (uc_251 E _) (Cn := RX7) (T := TX7) (N := 17) rfl hin7 0 (by decide) (by decide +kernel) rfl dX7_asks_1 ?_
  refine lv_bipush (v := 6) hx hb dX7_asks_4 (by decide) ?_
  refine ur_iald C h 252 (by decide) (uc_252 E _) (6) (by decide) (by decide) dX7_asks_6 ?_
  refine ur_eq (y := nI b) (hbk) ?_
  refine lv_bipush (v := 12) hx hb dX7_asks_7 (by decide) ?_
  refine lv_icmp_ne (tgt := 54) hx hb dX7_asks_9 (by decide) (fun c_1 => ?_) (fun c_1 => ?_)
  · skip
    have c_1 : ¬ b = 12 := fun z => c_1 ((nI_eq (a := b) (b := 12) (by omega) (by omega)).mpr z)
    refine lv_bipush (v := 79) hx hb dX7_asks_54 (by decide) ?_
    refine lv_iconst (v := 3) hx hb dX7_asks_56 (by decide) ?_
    refine lv_aload_n hx hb dX7_asks_57 rfl (lv_at hl 0 rfl) ?_
    refine ur_get C h 251 (by decide) (uc_251 E _) (Cn := RX7) (T := TX7) (N := 17) rfl hin7 0 (by decide) (by decide +kernel) rfl dX7_asks_58 ?_
    refine lv_bipush (v := 6) hx hb dX7_asks_61 (by decide) ?_
    refine ur_iald C h 252 (by decide) (uc_252 E _) (6) (by decide) (by decide) dX7_asks_63 ?_
    refine ur_eq (y := nI b) (hbk) ?_
    refine lv_imul hx hb dX7_asks_64 ?_
    refine ur_eq (y := nI (3 * b)) (pk_mul 3 b) ?_
    refine lv_iadd hx hb dX7_asks_65 ?_
    refine ur_eq (y := nI (79 + 3 * b)) (nI_add 79 (3 * b)) ?_
    refine lv_istore (lv' := [(5, .int (nI (79 + 3 * b))), (0, .ref (E.2.1 251)), (1, .int (nI p)), (2, .int (nI w)), (3, .int ps), (4, .int came)]) hx hb dX7_asks_66 hl (by decide) rfl (fun ls hl => ?_)
    refine lv_aload_n hx hb dX7_asks_68 rfl (lv_at hl 1 rfl) ?_
    refine ur_get C h 251 (by decide) (uc_251 E _) (Cn := RX7) (T := TX7) (N := 17) rfl hin7 0 (by decide) (by decide +kernel) rfl dX7_asks_69 ?_
    refine lv_iload hx hb dX7_asks_72 (lv_at hl 0 rfl) ?_
    refine lv_iload_n hx hb dX7_asks_74 rfl (lv_at hl 2 rfl) ?_
    refine ur_iast C h 252 (by decide) (uc_252 E) (79 + 3 * b) (by omega) (by decide) dX7_asks_75 (fun M_2 H locs eM_2 h => ?_)
    refine lv_aload_n hx hb dX7_asks_76 rfl (lv_at hl 1 rfl) ?_
    refine ur_get C h 251 (by decide) (uc_251 E _) (Cn := RX7) (T := TX7) (N := 17) rfl hin7 0 (by decide) (by decide +kernel) rfl dX7_asks_77 ?_
    refine lv_iload hx hb dX7_asks_80 (lv_at hl 0 rfl) ?_
    refine lv_iconst (v := 1) hx hb dX7_asks_82 (by decide) ?_
    refine lv_iadd hx hb dX7_asks_83 ?_
    refine ur_eq (y := nI (79 + 3 * b + 1)) (nI_add (79 + 3 * b) 1) ?_
    refine lv_iload_n hx hb dX7_asks_84 rfl (lv_at hl 4 rfl) ?_
    refine ur_iast C h 252 (by decide) (uc_252 E) (79 + 3 * b + 1) (by omega) (by decide) dX7_asks_85 (fun M_3 H locs eM_3 h => ?_)
    refine lv_aload_n hx hb dX7_asks_86 rfl (lv_at hl 1 rfl) ?_
    refine ur_get C h 251 (by decide) (uc_251 E _) (Cn := RX7) (T := TX7) (N := 17) rfl hin7 0 (by decide) (by decide +kernel) rfl dX7_asks_87 ?_
    refine lv_iload hx hb dX7_asks_90 (lv_at hl 0 rfl) ?_
    refine lv_iconst (v := 2) hx hb dX7_asks_92 (by decide) ?_
    refine lv_iadd hx hb dX7_asks_93 ?_
    refine ur_eq (y := nI (79 + 3 * b + 2)) (nI_add (79 + 3 * b) 2) ?_
    refine lv_iload hx hb dX7_asks_94 (lv_at hl 5 rfl) ?_
    refine ur_iast C h 252 (by decide) (uc_252 E) (79 + 3 * b + 2) (by omega) (by decide) dX7_asks_96 (fun M_4 H locs eM_4 h => ?_)
    refine lv_aload_n hx hb dX7_asks_97 rfl (lv_at hl 1 rfl) ?_
    refine ur_get C h 251 (by decide) (uc_251 E _) (Cn := RX7) (T := TX7) (N := 17) rfl hin7 0 (by decide) (by decide +kernel) rfl dX7_asks_98 ?_
    refine lv_bipush (v := 6) hx hb dX7_asks_101 (by decide) ?_
    refine lv_dup2_11 hx hb dX7_asks_103 rfl rfl ?_
    refine ur_iald C h 252 (by decide) (uc_252 E _) (6) (by decide) (by decide) dX7_asks_104 ?_
    refine ur_eq (y := nI b) (by rw [eM_4, u_set1, if_pos rfl, if_neg (by omega), eM_3, u_set1, if_pos rfl, if_neg (by omega), eM_2, u_set1, if_pos rfl, if_neg (by omega)]; exact hbk) ?_
    refine lv_iconst (v := 1) hx hb dX7_asks_105 (by decide) ?_
    refine lv_iadd hx hb dX7_asks_106 ?_
    refine ur_eq (y := nI (b + 1)) (nI_add b 1) ?_
    refine ur_iast C h 252 (by decide) (uc_252 E) (6) (by decide) (by decide) dX7_asks_107 (fun M_5 H locs eM_5 h => ?_)
    refine lv_aload_n hx hb dX7_asks_108 rfl (lv_at hl 1 rfl) ?_
    refine ur_get C h 251 (by decide) (uc_251 E _) (Cn := RX7) (T := TX7) (N := 17) rfl hin7 0 (by decide) (by decide +kernel) rfl dX7_asks_109 ?_
    refine lv_bipush (v := 7) hx hb dX7_asks_112 (by decide) ?_
    refine lv_bipush (v := 10) hx hb dX7_asks_114 (by decide) ?_
    refine lv_iload_n hx hb dX7_asks_116 rfl (lv_at hl 2 rfl) ?_
    refine lv_imul hx hb dX7_asks_117 ?_
    refine ur_eq (y := nI (10 * p)) (pk_mul 10 p) ?_
    refine lv_iadd hx hb dX7_asks_118 ?_
    refine ur_eq (y := nI (7 + 10 * p)) (nI_add 7 (10 * p)) ?_
    refine lv_iconst (v := 2) hx hb dX7_asks_119 (by decide) ?_
    refine lv_iadd hx hb dX7_asks_120 ?_
    refine ur_eq (y := nI (7 + 10 * p + 2)) (nI_add (7 + 10 * p) 2) ?_
    refine lv_iload hx hb dX7_asks_121 (lv_at hl 5 rfl) ?_
    refine lv_iconst (v := 1) hx hb dX7_asks_123 (by decide) ?_
    refine lv_icmp_ne (tgt := 131) hx hb dX7_asks_124 (by decide) (fun c_6 => ?_) (fun c_6 => ?_)
    · skip
      refine lv_iconst (v := 2) hx hb dX7_asks_131 (by decide) ?_
      refine ur_iast C h 252 (by decide) (uc_252 E) (7 + 10 * p + 2) (by omega) (by decide) dX7_asks_132 (fun M_7 H locs eM_7 h => ?_)
      refine lv_aload_n hx hb dX7_asks_133 rfl (lv_at hl 1 rfl) ?_
      refine ur_get C h 251 (by decide) (uc_251 E _) (Cn := RX7) (T := TX7) (N := 17) rfl hin7 0 (by decide) (by decide +kernel) rfl dX7_asks_134 ?_
      refine lv_bipush (v := 67) hx hb dX7_asks_137 (by decide) ?_
      refine lv_iconst (v := 2) hx hb dX7_asks_139 (by decide) ?_
      refine lv_iload_n hx hb dX7_asks_140 rfl (lv_at hl 3 rfl) ?_
      refine lv_imul hx hb dX7_asks_141 ?_
      refine ur_eq (y := nI (2 * w)) (pk_mul 2 w) ?_
      refine lv_iadd hx hb dX7_asks_142 ?_
      refine ur_eq (y := nI (67 + 2 * w)) (nI_add 67 (2 * w)) ?_
      refine lv_iconst (v := 1) hx hb dX7_asks_143 (by decide) ?_
      refine lv_iadd hx hb dX7_asks_144 ?_
      refine ur_eq (y := nI (67 + 2 * w + 1)) (nI_add (67 + 2 * w) 1) ?_
      refine lv_dup2_11 hx hb dX7_asks_145 rfl rfl ?_
      refine ur_iald C h 252 (by decide) (uc_252 E _) (67 + 2 * w + 1) (by omega) (by decide) dX7_asks_146 ?_
      refine lv_iconst (v := 1) hx hb dX7_asks_147 (by decide) ?_
      refine lv_iadd hx hb dX7_asks_148 ?_
      refine ur_iast C h 252 (by decide) (uc_252 E) (67 + 2 * w + 1) (by omega) (by decide) dX7_asks_149 (fun M_8 H locs eM_8 h => ?_)
      refine lv_aload_n hx hb dX7_asks_150 rfl (lv_at hl 1 rfl) ?_
      refine ur_get C h 251 (by decide) (uc_251 E _) (Cn := RX7) (T := TX7) (N := 17) rfl hin7 0 (by decide) (by decide +kernel) rfl dX7_asks_151 ?_
      refine lv_iconst (v := 4) hx hb dX7_asks_154 (by decide) ?_
      refine lv_dup2_11 hx hb dX7_asks_155 rfl rfl ?_
      refine ur_iald C h 252 (by decide) (uc_252 E _) (4) (by decide) (by decide) dX7_asks_156 ?_
      refine lv_iconst (v := 1) hx hb dX7_asks_157 (by decide) ?_
      refine lv_iadd hx hb dX7_asks_158 ?_
      refine ur_iast C h 252 (by decide) (uc_252 E) (4) (by decide) (by decide) dX7_asks_159 (fun M_9 H locs eM_9 h => ?_)
      exact ur_vret C h hr hlocks (by unfold mAsks; rw [if_neg (by omega)]; subst eM_2; subst eM_3; subst eM_4; subst eM_5; subst eM_7; subst eM_8; subst eM_9; simp only [mAsk1]; rw [if_neg c_6]) dX7_asks_160
    · skip
      refine lv_iconst (v := 1) hx hb dX7_asks_127 (by decide) ?_
      refine lv_goto (tgt := 132) hx hb dX7_asks_128 (by decide) ?_
      refine ur_iast C h 252 (by decide) (uc_252 E) (7 + 10 * p + 2) (by omega) (by decide) dX7_asks_132 (fun M_10 H locs eM_10 h => ?_)
      refine lv_aload_n hx hb dX7_asks_133 rfl (lv_at hl 1 rfl) ?_
      refine ur_get C h 251 (by decide) (uc_251 E _) (Cn := RX7) (T := TX7) (N := 17) rfl hin7 0 (by decide) (by decide +kernel) rfl dX7_asks_134 ?_
      refine lv_bipush (v := 67) hx hb dX7_asks_137 (by decide) ?_
      refine lv_iconst (v := 2) hx hb dX7_asks_139 (by decide) ?_
      refine lv_iload_n hx hb dX7_asks_140 rfl (lv_at hl 3 rfl) ?_
      refine lv_imul hx hb dX7_asks_141 ?_
      refine ur_eq (y := nI (2 * w)) (pk_mul 2 w) ?_
      refine lv_iadd hx hb dX7_asks_142 ?_
      refine ur_eq (y := nI (67 + 2 * w)) (nI_add 67 (2 * w)) ?_
      refine lv_iconst (v := 1) hx hb dX7_asks_143 (by decide) ?_
      refine lv_iadd hx hb dX7_asks_144 ?_
      refine ur_eq (y := nI (67 + 2 * w + 1)) (nI_add (67 + 2 * w) 1) ?_
      refine lv_dup2_11 hx hb dX7_asks_145 rfl rfl ?_
      refine ur_iald C h 252 (by decide) (uc_252 E _) (67 + 2 * w + 1) (by omega) (by decide) dX7_asks_146 ?_
      refine lv_iconst (v := 1) hx hb dX7_asks_147 (by decide) ?_
      refine lv_iadd hx hb dX7_asks_148 ?_
      refine ur_iast C h 252 (by decide) (uc_252 E) (67 + 2 * w + 1) (by omega) (by decide) dX7_asks_149 (fun M_11 H locs eM_11 h => ?_)
      refine lv_aload_n hx hb dX7_asks_150 rfl (lv_at hl 1 rfl) ?_
      refine ur_get C h 251 (by decide) (uc_251 E _) (Cn := RX7) (T := TX7) (N := 17) rfl hin7 0 (by decide) (by decide +kernel) rfl dX7_asks_151 ?_
      refine lv_iconst (v := 4) hx hb dX7_asks_154 (by decide) ?_
      refine lv_dup2_11 hx hb dX7_asks_155 rfl rfl ?_
      refine ur_iald C h 252 (by decide) (uc_252 E _) (4) (by decide) (by decide) dX7_asks_156 ?_
      refine lv_iconst (v := 1) hx hb dX7_asks_157 (by decide) ?_
      refine lv_iadd hx hb dX7_asks_158 ?_
      refine ur_iast C h 252 (by decide) (uc_252 E) (4) (by decide) (by decide) dX7_asks_159 (fun M_12 H locs eM_12 h => ?_)
      exact ur_vret C h hr hlocks (by unfold mAsks; rw [if_neg (by omega)]; subst eM_2; subst eM_3; subst eM_4; subst eM_5; subst eM_10; subst eM_11; subst eM_12; simp only [mAsk1]; rw [if_pos c_6]) dX7_asks_160
  · skip
    have c_1 : b = 12 := (nI_eq (a := b) (b := 12) (by omega) (by omega)).mp c_1
    refine lv_bipush (v := 82) hx hb dX7_asks_12 (by decide) ?_
    refine lv_istore (lv' := [(5, .int 82), (0, .ref (E.2.1 251)), (1, .int (nI p)), (2, .int (nI w)), (3, .int ps), (4, .int came)]) hx hb dX7_asks_14 hl (by decide) rfl (fun ls hl => ?_)
    have lp16 : ∀ (n16 : Nat) (i : Nat) (Mi : uM), 33 - i < n16 → i ≤ 33 → Mi = uRow M 252 (va_cpy (M.1 252) (M.1 252) 82 79 i) → ∀ (H : Heap) (locs : List Loc) (ls : Array Slot), uH E Mi s_ H locs → lv_has ls 6 [(5, .int (nI (82 + i))), (0, .ref (E.2.1 251)), (1, .int (nI p)), (2, .int (nI w)), (3, .int ps), (4, .int came)] → W p_ l e_ ({ frames := 0, cells := 0, slots := 0, locals := 0 }) s_ m_ (List.toArray [.ref (E.2.1 251), .int (nI p), .int (nI w), .int ps, .int came]) bl_ me_ c_ H locs 0 0 (MQ bl_ (va_Qv (fun u => u = mAsks M b p w ps came) (uP E) (uA E)) (List.toArray [.ref (E.2.1 251), .int (nI p), .int (nI w), .int ps, .int came]) s_ 0 0 (uA E)) (F0 m_ 16 ls []) := by
      intro n16
      induction n16 with
      | zero => intro i Mi hms; exact absurd hms (Nat.not_lt_zero _)
      | succ n16 ih16 =>
        intro i Mi hms16 hi hMi H locs ls h hl
        refine lv_iload hx hb dX7_asks_16 (lv_at hl 0 rfl) ?_
        refine lv_bipush (v := 115) hx hb dX7_asks_18 (by decide) ?_
        refine lv_icmp_ge (tgt := 45) hx hb dX7_asks_20 (by decide) (fun c_13 => ?_) (fun c_13 => ?_)
        · skip
          have c_13 : 115 ≤ (82 + i) := (nI_leI (a := 115) (b := (82 + i)) (by omega) (by omega)).mp c_13
          refine lv_aload_n hx hb dX7_asks_45 rfl (lv_at hl 1 rfl) ?_
          refine ur_get C h 251 (by decide) (uc_251 E _) (Cn := RX7) (T := TX7) (N := 17) rfl hin7 0 (by decide) (by decide +kernel) rfl dX7_asks_46 ?_
          refine lv_bipush (v := 6) hx hb dX7_asks_49 (by decide) ?_
          refine lv_bipush (v := 11) hx hb dX7_asks_51 (by decide) ?_
          refine ur_iast C h 252 (by decide) (uc_252 E) (6) (by decide) (by decide) dX7_asks_53 (fun M_14 H locs eM_14 h => ?_)
          refine lv_bipush (v := 79) hx hb dX7_asks_54 (by decide) ?_
          refine lv_iconst (v := 3) hx hb dX7_asks_56 (by decide) ?_
          refine lv_aload_n hx hb dX7_asks_57 rfl (lv_at hl 1 rfl) ?_
          refine ur_get C h 251 (by decide) (uc_251 E _) (Cn := RX7) (T := TX7) (N := 17) rfl hin7 0 (by decide) (by decide +kernel) rfl dX7_asks_58 ?_
          refine lv_bipush (v := 6) hx hb dX7_asks_61 (by decide) ?_
          refine ur_iald C h 252 (by decide) (uc_252 E _) (6) (by decide) (by decide) dX7_asks_63 ?_
          refine ur_eq (y := nI 11) (by rw [eM_14, u_set1, if_pos rfl, if_pos rfl]; try rfl) ?_
          refine lv_imul hx hb dX7_asks_64 ?_
          refine ur_eq (y := nI (33)) (pk_mul 3 11) ?_
          refine lv_iadd hx hb dX7_asks_65 ?_
          refine ur_eq (y := nI (112)) (nI_add 79 33) ?_
          refine lv_istore (lv' := [(5, .int (nI 112)), (0, .ref (E.2.1 251)), (1, .int (nI p)), (2, .int (nI w)), (3, .int ps), (4, .int came)]) hx hb dX7_asks_66 hl (by decide) rfl (fun ls hl => ?_)
          refine lv_aload_n hx hb dX7_asks_68 rfl (lv_at hl 1 rfl) ?_
          refine ur_get C h 251 (by decide) (uc_251 E _) (Cn := RX7) (T := TX7) (N := 17) rfl hin7 0 (by decide) (by decide +kernel) rfl dX7_asks_69 ?_
          refine lv_iload hx hb dX7_asks_72 (lv_at hl 0 rfl) ?_
          refine lv_iload_n hx hb dX7_asks_74 rfl (lv_at hl 2 rfl) ?_
          refine ur_iast C h 252 (by decide) (uc_252 E) (112) (by decide) (by decide) dX7_asks_75 (fun M_15 H locs eM_15 h => ?_)
          refine lv_aload_n hx hb dX7_asks_76 rfl (lv_at hl 1 rfl) ?_
          refine ur_get C h 251 (by decide) (uc_251 E _) (Cn := RX7) (T := TX7) (N := 17) rfl hin7 0 (by decide) (by decide +kernel) rfl dX7_asks_77 ?_
          refine lv_iload hx hb dX7_asks_80 (lv_at hl 0 rfl) ?_
          refine lv_iconst (v := 1) hx hb dX7_asks_82 (by decide) ?_
          refine lv_iadd hx hb dX7_asks_83 ?_
          refine ur_eq (y := nI (113)) (nI_add 112 1) ?_
          refine lv_iload_n hx hb dX7_asks_84 rfl (lv_at hl 4 rfl) ?_
          refine ur_iast C h 252 (by decide) (uc_252 E) (113) (by decide) (by decide) dX7_asks_85 (fun M_16 H locs eM_16 h => ?_)
          refine lv_aload_n hx hb dX7_asks_86 rfl (lv_at hl 1 rfl) ?_
          refine ur_get C h 251 (by decide) (uc_251 E _) (Cn := RX7) (T := TX7) (N := 17) rfl hin7 0 (by decide) (by decide +kernel) rfl dX7_asks_87 ?_
          refine lv_iload hx hb dX7_asks_90 (lv_at hl 0 rfl) ?_
          refine lv_iconst (v := 2) hx hb dX7_asks_92 (by decide) ?_
          refine lv_iadd hx hb dX7_asks_93 ?_
          refine ur_eq (y := nI (114)) (nI_add 112 2) ?_
          refine lv_iload hx hb dX7_asks_94 (lv_at hl 5 rfl) ?_
          refine ur_iast C h 252 (by decide) (uc_252 E) (114) (by decide) (by decide) dX7_asks_96 (fun M_17 H locs eM_17 h => ?_)
          refine lv_aload_n hx hb dX7_asks_97 rfl (lv_at hl 1 rfl) ?_
          refine ur_get C h 251 (by decide) (uc_251 E _) (Cn := RX7) (T := TX7) (N := 17) rfl hin7 0 (by decide) (by decide +kernel) rfl dX7_asks_98 ?_
          refine lv_bipush (v := 6) hx hb dX7_asks_101 (by decide) ?_
          refine lv_dup2_11 hx hb dX7_asks_103 rfl rfl ?_
          refine ur_iald C h 252 (by decide) (uc_252 E _) (6) (by decide) (by decide) dX7_asks_104 ?_
          refine ur_eq (y := nI 11) (by rw [eM_17, u_set1, if_pos rfl, if_neg (by omega), eM_16, u_set1, if_pos rfl, if_neg (by omega), eM_15, u_set1, if_pos rfl, if_neg (by omega), eM_14, u_set1, if_pos rfl, if_pos rfl]; try rfl) ?_
          refine lv_iconst (v := 1) hx hb dX7_asks_105 (by decide) ?_
          refine lv_iadd hx hb dX7_asks_106 ?_
          refine ur_eq (y := nI (12)) (nI_add 11 1) ?_
          refine ur_iast C h 252 (by decide) (uc_252 E) (6) (by decide) (by decide) dX7_asks_107 (fun M_18 H locs eM_18 h => ?_)
          refine lv_aload_n hx hb dX7_asks_108 rfl (lv_at hl 1 rfl) ?_
          refine ur_get C h 251 (by decide) (uc_251 E _) (Cn := RX7) (T := TX7) (N := 17) rfl hin7 0 (by decide) (by decide +kernel) rfl dX7_asks_109 ?_
          refine lv_bipush (v := 7) hx hb dX7_asks_112 (by decide) ?_
          refine lv_bipush (v := 10) hx hb dX7_asks_114 (by decide) ?_
          refine lv_iload_n hx hb dX7_asks_116 rfl (lv_at hl 2 rfl) ?_
          refine lv_imul hx hb dX7_asks_117 ?_
          refine ur_eq (y := nI (10 * p)) (pk_mul 10 p) ?_
          refine lv_iadd hx hb dX7_asks_118 ?_
          refine ur_eq (y := nI (7 + 10 * p)) (nI_add 7 (10 * p)) ?_
          refine lv_iconst (v := 2) hx hb dX7_asks_119 (by decide) ?_
          refine lv_iadd hx hb dX7_asks_120 ?_
          refine ur_eq (y := nI (7 + 10 * p + 2)) (nI_add (7 + 10 * p) 2) ?_
          refine lv_iload hx hb dX7_asks_121 (lv_at hl 5 rfl) ?_
          refine lv_iconst (v := 1) hx hb dX7_asks_123 (by decide) ?_
          refine lv_icmp_ne (tgt := 131) hx hb dX7_asks_124 (by decide) (fun c_19 => ?_) (fun c_19 => ?_)
          · skip
            refine lv_iconst (v := 2) hx hb dX7_asks_131 (by decide) ?_
            refine ur_iast C h 252 (by decide) (uc_252 E) (7 + 10 * p + 2) (by omega) (by decide) dX7_asks_132 (fun M_20 H locs eM_20 h => ?_)
            refine lv_aload_n hx hb dX7_asks_133 rfl (lv_at hl 1 rfl) ?_
            refine ur_get C h 251 (by decide) (uc_251 E _) (Cn := RX7) (T := TX7) (N := 17) rfl hin7 0 (by decide) (by decide +kernel) rfl dX7_asks_134 ?_
            refine lv_bipush (v := 67) hx hb dX7_asks_137 (by decide) ?_
            refine lv_iconst (v := 2) hx hb dX7_asks_139 (by decide) ?_
            refine lv_iload_n hx hb dX7_asks_140 rfl (lv_at hl 3 rfl) ?_
            refine lv_imul hx hb dX7_asks_141 ?_
            refine ur_eq (y := nI (2 * w)) (pk_mul 2 w) ?_
            refine lv_iadd hx hb dX7_asks_142 ?_
            refine ur_eq (y := nI (67 + 2 * w)) (nI_add 67 (2 * w)) ?_
            refine lv_iconst (v := 1) hx hb dX7_asks_143 (by decide) ?_
            refine lv_iadd hx hb dX7_asks_144 ?_
            refine ur_eq (y := nI (67 + 2 * w + 1)) (nI_add (67 + 2 * w) 1) ?_
            refine lv_dup2_11 hx hb dX7_asks_145 rfl rfl ?_
            refine ur_iald C h 252 (by decide) (uc_252 E _) (67 + 2 * w + 1) (by omega) (by decide) dX7_asks_146 ?_
            refine lv_iconst (v := 1) hx hb dX7_asks_147 (by decide) ?_
            refine lv_iadd hx hb dX7_asks_148 ?_
            refine ur_iast C h 252 (by decide) (uc_252 E) (67 + 2 * w + 1) (by omega) (by decide) dX7_asks_149 (fun M_21 H locs eM_21 h => ?_)
            refine lv_aload_n hx hb dX7_asks_150 rfl (lv_at hl 1 rfl) ?_
            refine ur_get C h 251 (by decide) (uc_251 E _) (Cn := RX7) (T := TX7) (N := 17) rfl hin7 0 (by decide) (by decide +kernel) rfl dX7_asks_151 ?_
            refine lv_iconst (v := 4) hx hb dX7_asks_154 (by decide) ?_
            refine lv_dup2_11 hx hb dX7_asks_155 rfl rfl ?_
            refine ur_iald C h 252 (by decide) (uc_252 E _) (4) (by decide) (by decide) dX7_asks_156 ?_
            refine lv_iconst (v := 1) hx hb dX7_asks_157 (by decide) ?_
            refine lv_iadd hx hb dX7_asks_158 ?_
            refine ur_iast C h 252 (by decide) (uc_252 E) (4) (by decide) (by decide) dX7_asks_159 (fun M_22 H locs eM_22 h => ?_)
            exact ur_vret C h hr hlocks (by unfold mAsks; rw [if_pos (by omega)]; subst eM_14; subst eM_15; subst eM_16; subst eM_17; subst eM_18; subst eM_20; subst eM_21; subst eM_22; rw [hMi, show i = 33 by omega]; simp only [mAsk1]; rw [if_neg c_19]) dX7_asks_160
          · skip
            refine lv_iconst (v := 1) hx hb dX7_asks_127 (by decide) ?_
            refine lv_goto (tgt := 132) hx hb dX7_asks_128 (by decide) ?_
            refine ur_iast C h 252 (by decide) (uc_252 E) (7 + 10 * p + 2) (by omega) (by decide) dX7_asks_132 (fun M_23 H locs eM_23 h => ?_)
            refine lv_aload_n hx hb dX7_asks_133 rfl (lv_at hl 1 rfl) ?_
            refine ur_get C h 251 (by decide) (uc_251 E _) (Cn := RX7) (T := TX7) (N := 17) rfl hin7 0 (by decide) (by decide +kernel) rfl dX7_asks_134 ?_
            refine lv_bipush (v := 67) hx hb dX7_asks_137 (by decide) ?_
            refine lv_iconst (v := 2) hx hb dX7_asks_139 (by decide) ?_
            refine lv_iload_n hx hb dX7_asks_140 rfl (lv_at hl 3 rfl) ?_
            refine lv_imul hx hb dX7_asks_141 ?_
            refine ur_eq (y := nI (2 * w)) (pk_mul 2 w) ?_
            refine lv_iadd hx hb dX7_asks_142 ?_
            refine ur_eq (y := nI (67 + 2 * w)) (nI_add 67 (2 * w)) ?_
            refine lv_iconst (v := 1) hx hb dX7_asks_143 (by decide) ?_
            refine lv_iadd hx hb dX7_asks_144 ?_
            refine ur_eq (y := nI (67 + 2 * w + 1)) (nI_add (67 + 2 * w) 1) ?_
            refine lv_dup2_11 hx hb dX7_asks_145 rfl rfl ?_
            refine ur_iald C h 252 (by decide) (uc_252 E _) (67 + 2 * w + 1) (by omega) (by decide) dX7_asks_146 ?_
            refine lv_iconst (v := 1) hx hb dX7_asks_147 (by decide) ?_
            refine lv_iadd hx hb dX7_asks_148 ?_
            refine ur_iast C h 252 (by decide) (uc_252 E) (67 + 2 * w + 1) (by omega) (by decide) dX7_asks_149 (fun M_24 H locs eM_24 h => ?_)
            refine lv_aload_n hx hb dX7_asks_150 rfl (lv_at hl 1 rfl) ?_
            refine ur_get C h 251 (by decide) (uc_251 E _) (Cn := RX7) (T := TX7) (N := 17) rfl hin7 0 (by decide) (by decide +kernel) rfl dX7_asks_151 ?_
            refine lv_iconst (v := 4) hx hb dX7_asks_154 (by decide) ?_
            refine lv_dup2_11 hx hb dX7_asks_155 rfl rfl ?_
            refine ur_iald C h 252 (by decide) (uc_252 E _) (4) (by decide) (by decide) dX7_asks_156 ?_
            refine lv_iconst (v := 1) hx hb dX7_asks_157 (by decide) ?_
            refine lv_iadd hx hb dX7_asks_158 ?_
            refine ur_iast C h 252 (by decide) (uc_252 E) (4) (by decide) (by decide) dX7_asks_159 (fun M_25 H locs eM_25 h => ?_)
            exact ur_vret C h hr hlocks (by unfold mAsks; rw [if_pos (by omega)]; subst eM_14; subst eM_15; subst eM_16; subst eM_17; subst eM_18; subst eM_23; subst eM_24; subst eM_25; rw [hMi, show i = 33 by omega]; simp only [mAsk1]; rw [if_pos c_19]) dX7_asks_160
        · skip
          have c_13 : ¬ 115 ≤ (82 + i) := fun z => c_13 ((nI_leI (a := 115) (b := (82 + i)) (by omega) (by omega)).mpr z)
          refine lv_aload_n hx hb dX7_asks_23 rfl (lv_at hl 1 rfl) ?_
          refine ur_get C h 251 (by decide) (uc_251 E _) (Cn := RX7) (T := TX7) (N := 17) rfl hin7 0 (by decide) (by decide +kernel) rfl dX7_asks_24 ?_
          refine lv_iload hx hb dX7_asks_27 (lv_at hl 0 rfl) ?_
          refine lv_iconst (v := 3) hx hb dX7_asks_29 (by decide) ?_
          refine lv_isub hx hb dX7_asks_30 ?_
          refine ur_eq (y := nI (79 + i)) ((pk_sub (a := 82 + i) (b := 3) (by omega)).trans (congrArg nI (by omega))) ?_
          refine lv_aload_n hx hb dX7_asks_31 rfl (lv_at hl 1 rfl) ?_
          refine ur_get C h 251 (by decide) (uc_251 E _) (Cn := RX7) (T := TX7) (N := 17) rfl hin7 0 (by decide) (by decide +kernel) rfl dX7_asks_32 ?_
          refine lv_iload hx hb dX7_asks_35 (lv_at hl 0 rfl) ?_
          refine ur_iald C h 252 (by decide) (uc_252 E _) (82 + i) (by omega) (by decide) dX7_asks_37 ?_
          refine ur_iast C h 252 (by decide) (uc_252 E) (79 + i) (by omega) (by decide) dX7_asks_38 (fun M_26 H locs eM_26 h => ?_)
          refine lv_iinc (v := nI (82 + i + 1)) (lv' := [(5, .int (nI (82 + i + 1))), (0, .ref (E.2.1 251)), (1, .int (nI p)), (2, .int (nI w)), (3, .int ps), (4, .int came)]) hx hb dX7_asks_39 hl (k := 0) rfl (nI_add (82 + i) 1) (by decide) rfl (fun ls hl => ?_)
          refine lv_goto (tgt := 16) hx hb dX7_asks_42 (by decide) ?_
          exact ih16  (i + 1) M_26 (by omega) (by omega) (by rw [eM_26, hMi]; exact u_cpS (by omega) (by rw [u_row1, if_pos rfl, pk_cpy_out (by omega)])) _ _ _ h (lv_sub hl [0, 1, 2, 3, 4, 5] rfl)
    exact lp16 _ 0 M (Nat.lt_succ_self _) (by omega) u_cp0 _ _ _ h (lv_sub hl [0, 1, 2, 3, 4, 5] rfl)
set_option maxHeartbeats 4000000 in
set_option maxRecDepth 100000 in
theorem k_X7_ask (l : Launch) (E : uE) (hI : uI E) (M : uM) (x1 x2 : Int32) (n : Nat) (hn : M.1 252 0 = nI n) (hn6 : n ≤ 6) (nw : Nat) (hnw : M.1 252 1 = nI nw) (hnw6 : nw ≤ 6) (ht : ¬ M.1 252 3 = 0) (k : Nat) (hk : M.1 251 8 = nI k) (hk8 : k ≤ 8) (b : Nat) (hbk : M.1 252 6 = nI b) (hb12 : b ≤ 12) : Met l yX7_ask wsX7_ask ({ frames := 5, cells := 0, slots := 0, locals := 122 }) (va_Pc [.ref (E.2.1 251), .int x1, .int x2] (uB E M)) (va_Qi (fun r u => if ¬ 0 ≤ mWhy M n nw x1 x2 then M = u ∧ r = mWhy M n nw x1 x2 else r = mCame (mDraw (mNotes M k)) (tn x1) (tn x2) ∧ u = mAsks (mDraw (mNotes M k)) b (tn x1) (tn x2) (mPassIn (mDraw (mNotes M k)) (tn x1) (tn x2) ((mDraw (mNotes M k)).1 252 4)) r) (uP E) (uA E)) 0 0 (uA E) := by
  have hin7 : ∀ w ∈ wsX70, w ∈ wsX7_ask := by decide +kernel
  refine u_start (cc := cX7_ask) (maxL := 6) (ret := (some .int)) hI (by decide) rfl (Nat.le_of_ble_eq_true rfl) ?_
  intro p_ e_ s_ m_ bl_ me_ c_ C hr hlocks h ls hl
  have hx := C.1.1
  have hb := C.1.2.1
  have hown : s_.vm.findClass RX7 = some m_.cls := C.1.2.2.2.1
  have hts := C.1.2.2.2.2
  have hl : lv_has ls 6 [(0, .ref (E.2.1 251)), (1, .int x1), (2, .int x2)] := hl
  refine lv_aload_n hx hb dX7_ask_0 rfl (lv_at hl 0 rfl) ?_
  refine lv_iload_n hx hb dX7_ask_1 rfl (lv_at hl 1 rfl) ?_
  refine lv_iload_n hx hb dX7_ask_2 rfl (lv_at hl 2 rfl) ?_
  refine ur_callVi C h (k := 251) (As := [.int x1, .int x2]) (rest := []) (k_X7_whyNot l E hI M x1 x2 n hn hn6 nw hnw hnw6) (cwV 2 hts gX7_ask_X7_whyNot rfl rfl rfl (by decide +kernel) ⟨Nat.le_of_ble_eq_true rfl, Nat.le_of_ble_eq_true rfl⟩) (by decide) (uc_251 E _) (T := TX7) (N := 17) rfl rfl hl.1 rfl (Nat.le_of_ble_eq_true rfl) dX7_ask_3 (fun r_1 M_2 H locs hw_2 h => ?_)
  obtain ⟨hu, er_1⟩ := hw_2
  subst hu
  refine ur_eq (y := mWhy M n nw x1 x2) er_1 ?_
  refine lv_istore_n (lv' := [(3, .int (mWhy M n nw x1 x2)), (0, .ref (E.2.1 251)), (1, .int x1), (2, .int x2)]) hx hb dX7_ask_6 rfl hl (by decide) rfl (fun ls hl => ?_)
  refine lv_iload_n hx hb dX7_ask_7 rfl (lv_at hl 0 rfl) ?_
  refine lv_if_ge (tgt := 13) hx hb dX7_ask_8 (by decide) (fun c_3 => ?_) (fun c_3 => ?_)
  · skip
    obtain ⟨hsp, hwd⟩ := mWhy_ok (x := x1) (y := x2) (M := M) (n := n) (nw := nw) c_3
    obtain ⟨hnx1, enx1⟩ := u_tn hsp (by omega)
    obtain ⟨hnx2, enx2⟩ := u_tn hwd (by omega)
    refine lv_aload_n hx hb dX7_ask_13 rfl (lv_at hl 1 rfl) ?_
    refine ur_callVv C h (k := 251) (As := []) (rest := []) (k_X7_notes l E hI M k hk (by omega)) (cwV 0 hts gX7_ask_X7_notes rfl rfl rfl (by decide +kernel) ⟨Nat.le_of_ble_eq_true rfl, Nat.le_of_ble_eq_true rfl⟩) (by decide) (uc_251 E _) (T := TX7) (N := 17) rfl rfl hl.1 rfl (Nat.le_of_ble_eq_true rfl) dX7_ask_14 (fun M_5 H locs hw_5 h => ?_)
    have eM_5 := hw_5
    refine lv_aload_n hx hb dX7_ask_17 rfl (lv_at hl 1 rfl) ?_
    refine ur_get C h 251 (by decide) (uc_251 E _) (Cn := RX7) (T := TX7) (N := 17) rfl hin7 0 (by decide) (by decide +kernel) rfl dX7_ask_18 ?_
    refine lv_iconst (v := 5) hx hb dX7_ask_21 (by decide) ?_
    refine lv_aload_n hx hb dX7_ask_22 rfl (lv_at hl 1 rfl) ?_
    refine ur_get C h 251 (by decide) (uc_251 E _) (Cn := RX7) (T := TX7) (N := 17) rfl hin7 0 (by decide) (by decide +kernel) rfl dX7_ask_23 ?_
    refine lv_iconst (v := 5) hx hb dX7_ask_26 (by decide) ?_
    refine ur_iald C h 252 (by decide) (uc_252 E _) (5) (by decide) (by decide) dX7_ask_27 ?_
    refine lv_i2l (v := (M_5.1 252 5).toInt64) hx hb dX7_ask_28 rfl ?_
    refine lv_ldc2 (v := 1103515245) hx hb hown (hts (.constantLong RX7 153 1103515245) (by decide +kernel)) dX7_ask_29 ?_
    refine lv_lmul hx hb dX7_ask_32 ?_
    refine lv_ldc2 (v := 12345) hx hb hown (hts (.constantLong RX7 155 12345) (by decide +kernel)) dX7_ask_33 ?_
    refine lv_ladd hx hb dX7_ask_36 ?_
    refine lv_ldc2 (v := 2147483647) hx hb hown (hts (.constantLong RX7 157 2147483647) (by decide +kernel)) dX7_ask_37 ?_
    refine lv_land hx hb dX7_ask_40 ?_
    refine lv_l2i (v := (((((M_5.1 252 5).toInt64) * 1103515245) + 12345) &&& 2147483647).toInt32) hx hb dX7_ask_41 rfl ?_
    refine ur_iast C h 252 (by decide) (uc_252 E) (5) (by decide) (by decide) dX7_ask_42 (fun M_6 H locs eM_6 h => ?_)
    refine lv_aload_n hx hb dX7_ask_43 rfl (lv_at hl 1 rfl) ?_
    refine lv_iload_n hx hb dX7_ask_44 rfl (lv_at hl 2 rfl) ?_
    refine ur_eq (y := nI (tn x1)) enx1 ?_
    refine lv_iload_n hx hb dX7_ask_45 rfl (lv_at hl 3 rfl) ?_
    refine ur_eq (y := nI (tn x2)) enx2 ?_
    refine ur_callVi C h (k := 251) (As := [.int (nI (tn x1)), .int (nI (tn x2))]) (rest := []) (k_X7_passNow l E hI M_6 (tn x1) (tn x2) (by omega) (by omega) (by rw [eM_6, u_set1, if_pos rfl, if_neg (by omega)]; exact (by rw [eM_5, mNotes_252]; exact ht))) (cwV 2 hts gX7_ask_X7_passNow rfl rfl rfl (by decide +kernel) ⟨Nat.le_of_ble_eq_true rfl, Nat.le_of_ble_eq_true rfl⟩) (by decide) (uc_251 E _) (T := TX7) (N := 17) rfl rfl hl.1 rfl (Nat.le_of_ble_eq_true rfl) dX7_ask_46 (fun r_7 M_8 H locs hw_8 h => ?_)
    obtain ⟨hu, er_7⟩ := hw_8
    subst hu
    refine ur_eq (y := mPassIn M_6 (tn x1) (tn x2) (M_6.1 252 4)) er_7 ?_
    refine lv_topi (fun v_9 ev_9 => ?_)
    refine lv_istore (lv' := [(4, .int v_9), (3, .int (mWhy M n nw x1 x2)), (0, .ref (E.2.1 251)), (1, .int x1), (2, .int x2)]) hx hb dX7_ask_49 hl (by decide) rfl (fun ls hl => ?_)
    refine lv_aload_n hx hb dX7_ask_51 rfl (lv_at hl 2 rfl) ?_
    refine ur_get C h 251 (by decide) (uc_251 E _) (Cn := RX7) (T := TX7) (N := 17) rfl hin7 0 (by decide) (by decide +kernel) rfl dX7_ask_52 ?_
    refine lv_iconst (v := 5) hx hb dX7_ask_55 (by decide) ?_
    refine ur_iald C h 252 (by decide) (uc_252 E _) (5) (by decide) (by decide) dX7_ask_56 ?_
    refine lv_bipush (v := 16) hx hb dX7_ask_57 (by decide) ?_
    refine lv_idiv hx hb dX7_ask_59 (by decide) ?_
    refine lv_ldc (v := 1000000) hx hb hown (hts (.constant RX7 59 1000000) (by decide +kernel)) dX7_ask_60 ?_
    refine lv_irem hx hb dX7_ask_62 (by decide) ?_
    refine lv_iload hx hb dX7_ask_63 (lv_at hl 0 rfl) ?_
    refine lv_icmp_ge (tgt := 72) hx hb dX7_ask_65 (by decide) (fun c_10 => ?_) (fun c_10 => ?_)
    · skip
      refine lv_iconst (v := 0) hx hb dX7_ask_72 (by decide) ?_
      refine lv_istore (lv' := [(5, .int 0), (4, .int v_9), (3, .int (mWhy M n nw x1 x2)), (0, .ref (E.2.1 251)), (1, .int x1), (2, .int x2)]) hx hb dX7_ask_73 hl (by decide) rfl (fun ls hl => ?_)
      refine lv_aload_n hx hb dX7_ask_75 rfl (lv_at hl 3 rfl) ?_
      refine lv_iload_n hx hb dX7_ask_76 rfl (lv_at hl 4 rfl) ?_
      refine ur_eq (y := nI (tn x1)) enx1 ?_
      refine lv_iload_n hx hb dX7_ask_77 rfl (lv_at hl 5 rfl) ?_
      refine ur_eq (y := nI (tn x2)) enx2 ?_
      refine lv_iload hx hb dX7_ask_78 (lv_at hl 1 rfl) ?_
      refine lv_iload hx hb dX7_ask_80 (lv_at hl 0 rfl) ?_
      refine ur_callVv C h (k := 251) (As := [.int (nI (tn x1)), .int (nI (tn x2)), .int v_9, .int 0]) (rest := []) (k_X7_asks l E hI M_6 (tn x1) (tn x2) v_9 0 (by omega) (by omega) b (by rw [eM_6, u_set1, if_pos rfl, if_neg (by omega)]; exact (by rw [eM_5, mNotes_252]; exact hbk)) (by omega)) (cwV 4 hts gX7_ask_X7_asks rfl rfl rfl (by decide +kernel) ⟨Nat.le_of_ble_eq_true rfl, Nat.le_of_ble_eq_true rfl⟩) (by decide) (uc_251 E _) (T := TX7) (N := 17) rfl rfl hl.1 rfl (Nat.le_of_ble_eq_true rfl) dX7_ask_82 (fun M_12 H locs hw_12 h => ?_)
      have eM_12 := hw_12
      refine lv_iload hx hb dX7_ask_85 (lv_at hl 0 rfl) ?_
      exact ur_iret C h hr hlocks (by rw [if_neg (fun z => z c_3)]; subst eM_5; subst eM_6; subst ev_9; subst eM_12; exact ⟨(if_pos c_10).symm, rfl⟩) dX7_ask_87
    · skip
      refine lv_iconst (v := 1) hx hb dX7_ask_68 (by decide) ?_
      refine lv_goto (tgt := 73) hx hb dX7_ask_69 (by decide) ?_
      refine lv_istore (lv' := [(5, .int 1), (4, .int v_9), (3, .int (mWhy M n nw x1 x2)), (0, .ref (E.2.1 251)), (1, .int x1), (2, .int x2)]) hx hb dX7_ask_73 hl (by decide) rfl (fun ls hl => ?_)
      refine lv_aload_n hx hb dX7_ask_75 rfl (lv_at hl 3 rfl) ?_
      refine lv_iload_n hx hb dX7_ask_76 rfl (lv_at hl 4 rfl) ?_
      refine ur_eq (y := nI (tn x1)) enx1 ?_
      refine lv_iload_n hx hb dX7_ask_77 rfl (lv_at hl 5 rfl) ?_
      refine ur_eq (y := nI (tn x2)) enx2 ?_
      refine lv_iload hx hb dX7_ask_78 (lv_at hl 1 rfl) ?_
      refine lv_iload hx hb dX7_ask_80 (lv_at hl 0 rfl) ?_
      refine ur_callVv C h (k := 251) (As := [.int (nI (tn x1)), .int (nI (tn x2)), .int v_9, .int 1]) (rest := []) (k_X7_asks l E hI M_6 (tn x1) (tn x2) v_9 1 (by omega) (by omega) b (by rw [eM_6, u_set1, if_pos rfl, if_neg (by omega)]; exact (by rw [eM_5, mNotes_252]; exact hbk)) (by omega)) (cwV 4 hts gX7_ask_X7_asks rfl rfl rfl (by decide +kernel) ⟨Nat.le_of_ble_eq_true rfl, Nat.le_of_ble_eq_true rfl⟩) (by decide) (uc_251 E _) (T := TX7) (N := 17) rfl rfl hl.1 rfl (Nat.le_of_ble_eq_true rfl) dX7_ask_82 (fun M_14 H locs hw_14 h => ?_)
      have eM_14 := hw_14
      refine lv_iload hx hb dX7_ask_85 (lv_at hl 0 rfl) ?_
      exact ur_iret C h hr hlocks (by rw [if_neg (fun z => z c_3)]; subst eM_5; subst eM_6; subst ev_9; subst eM_14; exact ⟨(if_neg c_10).symm, rfl⟩) dX7_ask_87
  · skip
    refine lv_iload_n hx hb dX7_ask_11 rfl (lv_at hl 0 rfl) ?_
    exact ur_iret C h hr hlocks (by rw [if_pos (fun z => c_3 z)]; exact ⟨rfl, rfl⟩) dX7_ask_12
set_option maxHeartbeats 4000000 in
set_option maxRecDepth 100000 in
theorem k_X7_said (l : Launch) (E : uE) (hI : uI E) (M : uM) (x1 x2 x3 : Int32) (n : Nat) (hn : M.1 252 0 = nI n) (hn6 : n ≤ 6) (nw : Nat) (hnw : M.1 252 1 = nI nw) (hnw6 : nw ≤ 6) (ht : ¬ M.1 252 3 = 0) (k : Nat) (hk : M.1 251 8 = nI k) (hk8 : k ≤ 8) (b : Nat) (hbk : M.1 252 6 = nI b) (hb12 : b ≤ 12) : Met l yX7_said wsX7_said ({ frames := 5, cells := 0, slots := 0, locals := 122 }) (va_Pc [.ref (E.2.1 251), .int x1, .int x2, .int x3] (uB E M)) (va_Qi (fun r u => if 0 ≤ x3.toInt ∧ x3.toInt ≤ 1 then (if ¬ 0 ≤ mWhy M n nw x1 x2 then M = u ∧ r = mWhy M n nw x1 x2 else r = mPassIn (mNotes M k) (tn x1) (tn x2) ((mNotes M k).1 252 4) ∧ u = mAsks (mNotes M k) b (tn x1) (tn x2) r x3) else r = -1 ∧ M = u) (uP E) (uA E)) 0 0 (uA E) := by
  refine u_start (cc := cX7_said) (maxL := 6) (ret := (some .int)) hI (by decide) rfl (Nat.le_of_ble_eq_true rfl) ?_
  intro p_ e_ s_ m_ bl_ me_ c_ C hr hlocks h ls hl
  have hx := C.1.1
  have hb := C.1.2.1
  have hown : s_.vm.findClass RX7 = some m_.cls := C.1.2.2.2.1
  have hts := C.1.2.2.2.2
  have hl : lv_has ls 6 [(0, .ref (E.2.1 251)), (1, .int x1), (2, .int x2), (3, .int x3)] := hl
  refine lv_iload_n hx hb dX7_said_0 rfl (lv_at hl 3 rfl) ?_
  refine lv_i2l (v := x3.toInt64) hx hb dX7_said_1 rfl ?_
  refine lv_lconst (v := 0) hx hb dX7_said_2 (by decide) ?_
  refine lv_lconst (v := 1) hx hb dX7_said_3 (by decide) ?_
  refine ur_callSi C h (As := [.long x3.toInt64, .long 0, .long 1]) (rest := []) (k_X7_in l E hI M x3.toInt64 0 1) (va_cwS 3 hts gX7_said_X7_in rfl rfl rfl (by decide +kernel) ⟨Nat.le_of_ble_eq_true rfl, Nat.le_of_ble_eq_true rfl⟩) rfl hl.1 rfl (Nat.le_of_ble_eq_true rfl) dX7_said_4 (fun r_1 M_2 H locs hw_2 h => ?_)
  obtain ⟨hu, er_1⟩ := hw_2
  subst hu
  have er_1 : r_1 = if 0 ≤ x3.toInt ∧ x3.toInt ≤ 1 then 1 else 0 := u_in (x := x3.toInt) (u_w _) rfl rfl er_1
  refine lv_if_eq (tgt := 19) hx hb dX7_said_7 (by decide) (fun c_3 => ?_) (fun c_3 => ?_)
  · skip
    have c_3 : ¬ (0 ≤ x3.toInt ∧ x3.toInt ≤ 1) := uz_f er_1 c_3
    refine lv_iconst (v := (-1)) hx hb dX7_said_19 (by decide) ?_
    refine lv_istore (lv' := [(4, .int (-1)), (0, .ref (E.2.1 251)), (1, .int x1), (2, .int x2), (3, .int x3)]) hx hb dX7_said_20 hl (by decide) rfl (fun ls hl => ?_)
    refine lv_iload hx hb dX7_said_22 (lv_at hl 0 rfl) ?_
    refine lv_if_ge (tgt := 30) hx hb dX7_said_24 (by decide) (fun z => absurd z (by decide)) (fun c_4 => ?_)
    refine lv_iload hx hb dX7_said_27 (lv_at hl 0 rfl) ?_
    exact ur_iret C h hr hlocks (by rw [if_neg c_3]; exact ⟨rfl, rfl⟩) dX7_said_29
  · skip
    have c_3 : 0 ≤ x3.toInt ∧ x3.toInt ≤ 1 := uz_t er_1 c_3
    refine lv_aload_n hx hb dX7_said_10 rfl (lv_at hl 0 rfl) ?_
    refine lv_iload_n hx hb dX7_said_11 rfl (lv_at hl 1 rfl) ?_
    refine lv_iload_n hx hb dX7_said_12 rfl (lv_at hl 2 rfl) ?_
    refine ur_callVi C h (k := 251) (As := [.int x1, .int x2]) (rest := []) (k_X7_whyNot l E hI M x1 x2 n hn hn6 nw hnw hnw6) (cwV 2 hts gX7_said_X7_whyNot rfl rfl rfl (by decide +kernel) ⟨Nat.le_of_ble_eq_true rfl, Nat.le_of_ble_eq_true rfl⟩) (by decide) (uc_251 E _) (T := TX7) (N := 17) rfl rfl hl.1 rfl (Nat.le_of_ble_eq_true rfl) dX7_said_13 (fun r_5 M_6 H locs hw_6 h => ?_)
    obtain ⟨hu, er_5⟩ := hw_6
    subst hu
    refine ur_eq (y := mWhy M n nw x1 x2) er_5 ?_
    refine lv_goto (tgt := 20) hx hb dX7_said_16 (by decide) ?_
    refine lv_istore (lv' := [(4, .int (mWhy M n nw x1 x2)), (0, .ref (E.2.1 251)), (1, .int x1), (2, .int x2), (3, .int x3)]) hx hb dX7_said_20 hl (by decide) rfl (fun ls hl => ?_)
    refine lv_iload hx hb dX7_said_22 (lv_at hl 0 rfl) ?_
    refine lv_if_ge (tgt := 30) hx hb dX7_said_24 (by decide) (fun c_7 => ?_) (fun c_7 => ?_)
    · skip
      obtain ⟨hsp, hwd⟩ := mWhy_ok (x := x1) (y := x2) (M := M) (n := n) (nw := nw) c_7
      obtain ⟨hnx1, enx1⟩ := u_tn hsp (by omega)
      obtain ⟨hnx2, enx2⟩ := u_tn hwd (by omega)
      refine lv_aload_n hx hb dX7_said_30 rfl (lv_at hl 1 rfl) ?_
      refine ur_callVv C h (k := 251) (As := []) (rest := []) (k_X7_notes l E hI M k hk (by omega)) (cwV 0 hts gX7_said_X7_notes rfl rfl rfl (by decide +kernel) ⟨Nat.le_of_ble_eq_true rfl, Nat.le_of_ble_eq_true rfl⟩) (by decide) (uc_251 E _) (T := TX7) (N := 17) rfl rfl hl.1 rfl (Nat.le_of_ble_eq_true rfl) dX7_said_31 (fun M_9 H locs hw_9 h => ?_)
      have eM_9 := hw_9
      refine lv_aload_n hx hb dX7_said_34 rfl (lv_at hl 1 rfl) ?_
      refine lv_iload_n hx hb dX7_said_35 rfl (lv_at hl 2 rfl) ?_
      refine ur_eq (y := nI (tn x1)) enx1 ?_
      refine lv_iload_n hx hb dX7_said_36 rfl (lv_at hl 3 rfl) ?_
      refine ur_eq (y := nI (tn x2)) enx2 ?_
      refine ur_callVi C h (k := 251) (As := [.int (nI (tn x1)), .int (nI (tn x2))]) (rest := []) (k_X7_passNow l E hI M_9 (tn x1) (tn x2) (by omega) (by omega) (by rw [eM_9, mNotes_252]; exact ht)) (cwV 2 hts gX7_said_X7_passNow rfl rfl rfl (by decide +kernel) ⟨Nat.le_of_ble_eq_true rfl, Nat.le_of_ble_eq_true rfl⟩) (by decide) (uc_251 E _) (T := TX7) (N := 17) rfl rfl hl.1 rfl (Nat.le_of_ble_eq_true rfl) dX7_said_37 (fun r_10 M_11 H locs hw_11 h => ?_)
      obtain ⟨hu, er_10⟩ := hw_11
      subst hu
      refine ur_eq (y := mPassIn M_9 (tn x1) (tn x2) (M_9.1 252 4)) er_10 ?_
      refine lv_topi (fun v_12 ev_12 => ?_)
      refine lv_istore (lv' := [(5, .int v_12), (4, .int (mWhy M n nw x1 x2)), (0, .ref (E.2.1 251)), (1, .int x1), (2, .int x2), (3, .int x3)]) hx hb dX7_said_40 hl (by decide) rfl (fun ls hl => ?_)
      refine lv_aload_n hx hb dX7_said_42 rfl (lv_at hl 2 rfl) ?_
      refine lv_iload_n hx hb dX7_said_43 rfl (lv_at hl 3 rfl) ?_
      refine ur_eq (y := nI (tn x1)) enx1 ?_
      refine lv_iload_n hx hb dX7_said_44 rfl (lv_at hl 4 rfl) ?_
      refine ur_eq (y := nI (tn x2)) enx2 ?_
      refine lv_iload hx hb dX7_said_45 (lv_at hl 0 rfl) ?_
      refine lv_iload_n hx hb dX7_said_47 rfl (lv_at hl 5 rfl) ?_
      refine ur_callVv C h (k := 251) (As := [.int (nI (tn x1)), .int (nI (tn x2)), .int v_12, .int x3]) (rest := []) (k_X7_asks l E hI M_9 (tn x1) (tn x2) v_12 x3 (by omega) (by omega) b ((by rw [eM_9, mNotes_252]; exact hbk)) (by omega)) (cwV 4 hts gX7_said_X7_asks rfl rfl rfl (by decide +kernel) ⟨Nat.le_of_ble_eq_true rfl, Nat.le_of_ble_eq_true rfl⟩) (by decide) (uc_251 E _) (T := TX7) (N := 17) rfl rfl hl.1 rfl (Nat.le_of_ble_eq_true rfl) dX7_said_48 (fun M_14 H locs hw_14 h => ?_)
      have eM_14 := hw_14
      refine lv_iload hx hb dX7_said_51 (lv_at hl 0 rfl) ?_
      exact ur_iret C h hr hlocks (by rw [if_pos c_3, if_neg (fun z => z c_7)]; subst eM_9; subst ev_12; subst eM_14; exact ⟨rfl, rfl⟩) dX7_said_53
    · skip
      refine lv_iload hx hb dX7_said_27 (lv_at hl 0 rfl) ?_
      exact ur_iret C h hr hlocks (by rw [if_pos c_3, if_pos (fun z => c_7 z)]; exact ⟨rfl, rfl⟩) dX7_said_29
set_option maxHeartbeats 4000000 in
set_option maxRecDepth 100000 in
theorem k_X7_teach (l : Launch) (E : uE) (hI : uI E) (M : uM) (x1 x2 : Int32) (n : Nat) (hn : M.1 252 0 = nI n) (hn6 : n ≤ 6) (k : Nat) (hk : M.1 251 8 = nI k) (hk8 : k ≤ 8) : Met l yX7_teach wsX7_teach ({ frames := 2, cells := 0, slots := 0, locals := 46 }) (va_Pc [.ref (E.2.1 251), .int x1, .int x2] (uB E M)) (va_Qi (fun r u => if (0 ≤ x1.toInt ∧ x1.toInt < n) ∧ (0 ≤ x2.toInt ∧ x2.toInt ≤ 5) then (if ubit (M.1 252 (7 + 10 * tn x1 + 3)) (tn x2) = true ∨ ¬ mFate M (tn x1) = 0 then r = -2 ∧ M = u else if M.1 252 4 = 9999 then r = -3 ∧ M = u else u = mTeach (mNotes M k) (tn x1) (tn x2) ∧ r = u.1 252 (7 + 10 * tn x1 + 3)) else r = -1 ∧ M = u) (uP E) (uA E)) 0 0 (uA E) := by
  have hin7 : ∀ w ∈ wsX70, w ∈ wsX7_teach := by decide +kernel
  refine u_start (cc := cX7_teach) (maxL := 4) (ret := (some .int)) hI (by decide) rfl (Nat.le_of_ble_eq_true rfl) ?_
  intro p_ e_ s_ m_ bl_ me_ c_ C hr hlocks h ls hl
  have hx := C.1.1
  have hb := C.1.2.1
  have hown : s_.vm.findClass RX7 = some m_.cls := C.1.2.2.2.1
  have hts := C.1.2.2.2.2
  have hl : lv_has ls 4 [(0, .ref (E.2.1 251)), (1, .int x1), (2, .int x2)] := hl
  refine lv_aload_n hx hb dX7_teach_0 rfl (lv_at hl 0 rfl) ?_
  refine lv_iload_n hx hb dX7_teach_1 rfl (lv_at hl 1 rfl) ?_
  refine ur_callVi C h (k := 251) (As := [.int x1]) (rest := []) (k_X7_isSpeaker l E hI M x1 n hn hn6) (cwV 1 hts gX7_teach_X7_isSpeaker rfl rfl rfl (by decide +kernel) ⟨Nat.le_of_ble_eq_true rfl, Nat.le_of_ble_eq_true rfl⟩) (by decide) (uc_251 E _) (T := TX7) (N := 17) rfl rfl hl.1 rfl (Nat.le_of_ble_eq_true rfl) dX7_teach_2 (fun r_1 M_2 H locs hw_2 h => ?_)
  obtain ⟨hu, er_1⟩ := hw_2
  subst hu
  refine lv_if_eq (tgt := 20) hx hb dX7_teach_5 (by decide) (fun c_3 => ?_) (fun c_3 => ?_)
  · skip
    have c_3 : ¬ (0 ≤ x1.toInt ∧ x1.toInt < n) := uz_f er_1 c_3
    refine lv_iconst (v := (-1)) hx hb dX7_teach_20 (by decide) ?_
    exact ur_iret C h hr hlocks (by rw [if_neg (by omega)]; exact ⟨rfl, rfl⟩) dX7_teach_21
  · skip
    have c_3 : 0 ≤ x1.toInt ∧ x1.toInt < n := uz_t er_1 c_3
    refine lv_iload_n hx hb dX7_teach_8 rfl (lv_at hl 2 rfl) ?_
    refine lv_i2l (v := x2.toInt64) hx hb dX7_teach_9 rfl ?_
    refine lv_lconst (v := 0) hx hb dX7_teach_10 (by decide) ?_
    refine lv_ldc2 (v := 5) hx hb hown (hts (.constantLong RX7 90 5) (by decide +kernel)) dX7_teach_11 ?_
    refine ur_callSi C h (As := [.long x2.toInt64, .long 0, .long 5]) (rest := []) (k_X7_in l E hI M x2.toInt64 0 5) (va_cwS 3 hts gX7_teach_X7_in rfl rfl rfl (by decide +kernel) ⟨Nat.le_of_ble_eq_true rfl, Nat.le_of_ble_eq_true rfl⟩) rfl hl.1 rfl (Nat.le_of_ble_eq_true rfl) dX7_teach_14 (fun r_4 M_5 H locs hw_5 h => ?_)
    obtain ⟨hu, er_4⟩ := hw_5
    subst hu
    have er_4 : r_4 = if 0 ≤ x2.toInt ∧ x2.toInt ≤ 5 then 1 else 0 := u_in (x := x2.toInt) (u_w _) rfl rfl er_4
    refine lv_if_ne (tgt := 22) hx hb dX7_teach_17 (by decide) (fun c_6 => ?_) (fun c_6 => ?_)
    · skip
      have c_6 : 0 ≤ x2.toInt ∧ x2.toInt ≤ 5 := uz_t er_4 c_6
      obtain ⟨hnx1, enx1⟩ := u_tn c_3 (by omega)
      obtain ⟨hnx2, enx2⟩ := u_tn (x := x2) (n := 6) ⟨by omega, by omega⟩ (by omega)
      refine lv_bipush (v := 7) hx hb dX7_teach_22 (by decide) ?_
      refine lv_bipush (v := 10) hx hb dX7_teach_24 (by decide) ?_
      refine lv_iload_n hx hb dX7_teach_26 rfl (lv_at hl 1 rfl) ?_
      refine ur_eq (y := nI (tn x1)) enx1 ?_
      refine lv_imul hx hb dX7_teach_27 ?_
      refine ur_eq (y := nI (10 * (tn x1))) (pk_mul 10 (tn x1)) ?_
      refine lv_iadd hx hb dX7_teach_28 ?_
      refine ur_eq (y := nI (7 + 10 * (tn x1))) (nI_add 7 (10 * (tn x1))) ?_
      refine lv_iconst (v := 3) hx hb dX7_teach_29 (by decide) ?_
      refine lv_iadd hx hb dX7_teach_30 ?_
      refine ur_eq (y := nI (7 + 10 * (tn x1) + 3)) (nI_add (7 + 10 * (tn x1)) 3) ?_
      refine lv_istore_n (lv' := [(3, .int (nI (7 + 10 * (tn x1) + 3))), (0, .ref (E.2.1 251)), (1, .int x1), (2, .int x2)]) hx hb dX7_teach_31 rfl hl (by decide) rfl (fun ls hl => ?_)
      refine lv_aload_n hx hb dX7_teach_32 rfl (lv_at hl 1 rfl) ?_
      refine ur_get C h 251 (by decide) (uc_251 E _) (Cn := RX7) (T := TX7) (N := 17) rfl hin7 0 (by decide) (by decide +kernel) rfl dX7_teach_33 ?_
      refine lv_iload_n hx hb dX7_teach_36 rfl (lv_at hl 0 rfl) ?_
      refine ur_iald C h 252 (by decide) (uc_252 E _) (7 + 10 * (tn x1) + 3) (by omega) (by decide) dX7_teach_37 ?_
      refine lv_iload_n hx hb dX7_teach_38 rfl (lv_at hl 3 rfl) ?_
      refine ur_eq (y := nI (tn x2)) enx2 ?_
      refine lv_ishr hx hb dX7_teach_39 ?_
      refine lv_iconst (v := 1) hx hb dX7_teach_40 (by decide) ?_
      refine lv_iand hx hb dX7_teach_41 ?_
      refine lv_iconst (v := 1) hx hb dX7_teach_42 (by decide) ?_
      refine lv_icmp_eq (tgt := 55) hx hb dX7_teach_43 (by decide) (fun c_7 => ?_) (fun c_7 => ?_)
      · skip
        refine lv_bipush (v := (-2)) hx hb dX7_teach_55 (by decide) ?_
        exact ur_iret C h hr hlocks (by rw [if_pos (by omega), if_pos (by first | exact Or.inl (decide_eq_true c_7) | exact Or.inr c_7)]; exact ⟨rfl, rfl⟩) dX7_teach_57
      · skip
        refine lv_aload_n hx hb dX7_teach_46 rfl (lv_at hl 1 rfl) ?_
        refine lv_iload_n hx hb dX7_teach_47 rfl (lv_at hl 2 rfl) ?_
        refine ur_eq (y := nI (tn x1)) enx1 ?_
        refine lv_iconst (v := 2) hx hb dX7_teach_48 (by decide) ?_
        refine ur_callVi C h (k := 251) (As := [.int (nI (tn x1)), .int 2]) (rest := []) (k_X7_told l E hI M (tn x1) 2 (by omega)) (cwV 2 hts gX7_teach_X7_told rfl rfl rfl (by decide +kernel) ⟨Nat.le_of_ble_eq_true rfl, Nat.le_of_ble_eq_true rfl⟩) (by decide) (uc_251 E _) (T := TX7) (N := 17) rfl rfl hl.1 rfl (Nat.le_of_ble_eq_true rfl) dX7_teach_49 (fun r_8 M_9 H locs hw_9 h => ?_)
        obtain ⟨hu, er_8⟩ := hw_9
        subst hu
        refine ur_eq (y := M.1 252 (7 + 10 * (tn x1) + 2)) er_8 ?_
        refine lv_if_eq (tgt := 58) hx hb dX7_teach_52 (by decide) (fun c_10 => ?_) (fun c_10 => ?_)
        · skip
          refine lv_aload_n hx hb dX7_teach_58 rfl (lv_at hl 1 rfl) ?_
          refine ur_get C h 251 (by decide) (uc_251 E _) (Cn := RX7) (T := TX7) (N := 17) rfl hin7 0 (by decide) (by decide +kernel) rfl dX7_teach_59 ?_
          refine lv_iconst (v := 4) hx hb dX7_teach_62 (by decide) ?_
          refine ur_iald C h 252 (by decide) (uc_252 E _) (4) (by decide) (by decide) dX7_teach_63 ?_
          refine lv_sipush (v := 9999) hx hb dX7_teach_64 (by decide) ?_
          refine lv_icmp_ne (tgt := 73) hx hb dX7_teach_67 (by decide) (fun c_11 => ?_) (fun c_11 => ?_)
          · skip
            refine lv_aload_n hx hb dX7_teach_73 rfl (lv_at hl 1 rfl) ?_
            refine ur_callVv C h (k := 251) (As := []) (rest := []) (k_X7_notes l E hI M k hk (by omega)) (cwV 0 hts gX7_teach_X7_notes rfl rfl rfl (by decide +kernel) ⟨Nat.le_of_ble_eq_true rfl, Nat.le_of_ble_eq_true rfl⟩) (by decide) (uc_251 E _) (T := TX7) (N := 17) rfl rfl hl.1 rfl (Nat.le_of_ble_eq_true rfl) dX7_teach_74 (fun M_13 H locs hw_13 h => ?_)
            have eM_13 := hw_13
            refine lv_aload_n hx hb dX7_teach_77 rfl (lv_at hl 1 rfl) ?_
            refine ur_get C h 251 (by decide) (uc_251 E _) (Cn := RX7) (T := TX7) (N := 17) rfl hin7 0 (by decide) (by decide +kernel) rfl dX7_teach_78 ?_
            refine lv_iload_n hx hb dX7_teach_81 rfl (lv_at hl 0 rfl) ?_
            refine lv_dup2_11 hx hb dX7_teach_82 rfl rfl ?_
            refine ur_iald C h 252 (by decide) (uc_252 E _) (7 + 10 * (tn x1) + 3) (by omega) (by decide) dX7_teach_83 ?_
            refine lv_iconst (v := 1) hx hb dX7_teach_84 (by decide) ?_
            refine lv_iload_n hx hb dX7_teach_85 rfl (lv_at hl 3 rfl) ?_
            refine ur_eq (y := nI (tn x2)) enx2 ?_
            refine lv_ishl hx hb dX7_teach_86 ?_
            refine lv_ior hx hb dX7_teach_87 ?_
            refine ur_iast C h 252 (by decide) (uc_252 E) (7 + 10 * (tn x1) + 3) (by omega) (by decide) dX7_teach_88 (fun M_14 H locs eM_14 h => ?_)
            refine lv_aload_n hx hb dX7_teach_89 rfl (lv_at hl 1 rfl) ?_
            refine ur_get C h 251 (by decide) (uc_251 E _) (Cn := RX7) (T := TX7) (N := 17) rfl hin7 0 (by decide) (by decide +kernel) rfl dX7_teach_90 ?_
            refine lv_iconst (v := 4) hx hb dX7_teach_93 (by decide) ?_
            refine lv_dup2_11 hx hb dX7_teach_94 rfl rfl ?_
            refine ur_iald C h 252 (by decide) (uc_252 E _) (4) (by decide) (by decide) dX7_teach_95 ?_
            refine lv_iconst (v := 1) hx hb dX7_teach_96 (by decide) ?_
            refine lv_iadd hx hb dX7_teach_97 ?_
            refine ur_iast C h 252 (by decide) (uc_252 E) (4) (by decide) (by decide) dX7_teach_98 (fun M_15 H locs eM_15 h => ?_)
            refine lv_aload_n hx hb dX7_teach_99 rfl (lv_at hl 1 rfl) ?_
            refine ur_get C h 251 (by decide) (uc_251 E _) (Cn := RX7) (T := TX7) (N := 17) rfl hin7 0 (by decide) (by decide +kernel) rfl dX7_teach_100 ?_
            refine lv_iload_n hx hb dX7_teach_103 rfl (lv_at hl 0 rfl) ?_
            refine ur_iald C h 252 (by decide) (uc_252 E _) (7 + 10 * (tn x1) + 3) (by omega) (by decide) dX7_teach_104 ?_
            exact ur_iret C h hr hlocks (by rw [if_pos (by omega), if_neg (fun z => by rcases z with z | z <;> first | exact c_7 (of_decide_eq_true z) | exact z c_10), if_neg c_11]; subst eM_13; subst eM_14; subst eM_15; exact ⟨rfl, rfl⟩) dX7_teach_105
          · skip
            refine lv_bipush (v := (-3)) hx hb dX7_teach_70 (by decide) ?_
            exact ur_iret C h hr hlocks (by rw [if_pos (by omega), if_neg (fun z => by rcases z with z | z <;> first | exact c_7 (of_decide_eq_true z) | exact z c_10), if_pos c_11]; exact ⟨rfl, rfl⟩) dX7_teach_72
        · skip
          refine lv_bipush (v := (-2)) hx hb dX7_teach_55 (by decide) ?_
          exact ur_iret C h hr hlocks (by rw [if_pos (by omega), if_pos (by first | exact Or.inl (decide_eq_true c_10) | exact Or.inr c_10)]; exact ⟨rfl, rfl⟩) dX7_teach_57
    · skip
      have c_6 : ¬ (0 ≤ x2.toInt ∧ x2.toInt ≤ 5) := uz_f er_4 c_6
      refine lv_iconst (v := (-1)) hx hb dX7_teach_20 (by decide) ?_
      exact ur_iret C h hr hlocks (by rw [if_neg (by omega)]; exact ⟨rfl, rfl⟩) dX7_teach_21
set_option maxHeartbeats 4000000 in
set_option maxRecDepth 100000 in
theorem k_X7_rest (l : Launch) (E : uE) (hI : uI E) (M : uM) (k : Nat) (hk : M.1 251 8 = nI k) (hk8 : k ≤ 8) : Met l yX7_rest wsX7_rest ({ frames := 1, cells := 0, slots := 0, locals := 21 }) (va_Pc [.ref (E.2.1 251)] (uB E M)) (va_Qi (fun r u => u = uSet (mNotes M k) 252 4 0 ∧ r = M.1 252 4) (uP E) (uA E)) 0 0 (uA E) := by
  have hin7 : ∀ w ∈ wsX70, w ∈ wsX7_rest := by decide +kernel
  refine u_start (cc := cX7_rest) (maxL := 2) (ret := (some .int)) hI (by decide) rfl (Nat.le_of_ble_eq_true rfl) ?_
  intro p_ e_ s_ m_ bl_ me_ c_ C hr hlocks h ls hl
  have hx := C.1.1
  have hb := C.1.2.1
  have hown : s_.vm.findClass RX7 = some m_.cls := C.1.2.2.2.1
  have hts := C.1.2.2.2.2
  have hl : lv_has ls 2 [(0, .ref (E.2.1 251))] := hl
  refine lv_aload_n hx hb dX7_rest_0 rfl (lv_at hl 0 rfl) ?_
  refine ur_callVv C h (k := 251) (As := []) (rest := []) (k_X7_notes l E hI M k hk (by omega)) (cwV 0 hts gX7_rest_X7_notes rfl rfl rfl (by decide +kernel) ⟨Nat.le_of_ble_eq_true rfl, Nat.le_of_ble_eq_true rfl⟩) (by decide) (uc_251 E _) (T := TX7) (N := 17) rfl rfl hl.1 rfl (Nat.le_of_ble_eq_true rfl) dX7_rest_1 (fun M_2 H locs hw_2 h => ?_)
  have eM_2 := hw_2
  refine lv_aload_n hx hb dX7_rest_4 rfl (lv_at hl 0 rfl) ?_
  refine ur_get C h 251 (by decide) (uc_251 E _) (Cn := RX7) (T := TX7) (N := 17) rfl hin7 0 (by decide) (by decide +kernel) rfl dX7_rest_5 ?_
  refine lv_iconst (v := 4) hx hb dX7_rest_8 (by decide) ?_
  refine ur_iald C h 252 (by decide) (uc_252 E _) (4) (by decide) (by decide) dX7_rest_9 ?_
  refine lv_istore_n (lv' := [(1, .int (M_2.1 252 4)), (0, .ref (E.2.1 251))]) hx hb dX7_rest_10 rfl hl (by decide) rfl (fun ls hl => ?_)
  refine lv_aload_n hx hb dX7_rest_11 rfl (lv_at hl 1 rfl) ?_
  refine ur_get C h 251 (by decide) (uc_251 E _) (Cn := RX7) (T := TX7) (N := 17) rfl hin7 0 (by decide) (by decide +kernel) rfl dX7_rest_12 ?_
  refine lv_iconst (v := 4) hx hb dX7_rest_15 (by decide) ?_
  refine lv_iconst (v := 0) hx hb dX7_rest_16 (by decide) ?_
  refine ur_iast C h 252 (by decide) (uc_252 E) (4) (by decide) (by decide) dX7_rest_17 (fun M_3 H locs eM_3 h => ?_)
  refine lv_iload_n hx hb dX7_rest_18 rfl (lv_at hl 0 rfl) ?_
  exact ur_iret C h hr hlocks (by subst eM_2; subst eM_3; exact ⟨rfl, by rw [mNotes_252]⟩) dX7_rest_19
set_option maxHeartbeats 4000000 in
set_option maxRecDepth 100000 in
theorem k_X7_seed (l : Launch) (E : uE) (hI : uI E) (M : uM) (x1 : Int32) : Met l yX7_seed wsX7_seed ({ frames := 0, cells := 0, slots := 0, locals := 0 }) (va_Pc [.ref (E.2.1 251), .int x1] (uB E M)) (va_Qi (fun r u => if 0 ≤ x1 then u = uSet M 252 5 x1 ∧ r = M.1 252 5 else r = -1 ∧ M = u) (uP E) (uA E)) 0 0 (uA E) := by
  have hin7 : ∀ w ∈ wsX70, w ∈ wsX7_seed := by decide +kernel
  refine u_start (cc := cX7_seed) (maxL := 3) (ret := (some .int)) hI (by decide) rfl (Nat.le_of_ble_eq_true rfl) ?_
  intro p_ e_ s_ m_ bl_ me_ c_ C hr hlocks h ls hl
  have hx := C.1.1
  have hb := C.1.2.1
  have hown : s_.vm.findClass RX7 = some m_.cls := C.1.2.2.2.1
  have hts := C.1.2.2.2.2
  have hl : lv_has ls 3 [(0, .ref (E.2.1 251)), (1, .int x1)] := hl
  refine lv_iload_n hx hb dX7_seed_0 rfl (lv_at hl 1 rfl) ?_
  refine lv_if_ge (tgt := 6) hx hb dX7_seed_1 (by decide) (fun c_1 => ?_) (fun c_1 => ?_)
  · skip
    refine lv_aload_n hx hb dX7_seed_6 rfl (lv_at hl 0 rfl) ?_
    refine ur_get C h 251 (by decide) (uc_251 E _) (Cn := RX7) (T := TX7) (N := 17) rfl hin7 0 (by decide) (by decide +kernel) rfl dX7_seed_7 ?_
    refine lv_iconst (v := 5) hx hb dX7_seed_10 (by decide) ?_
    refine ur_iald C h 252 (by decide) (uc_252 E _) (5) (by decide) (by decide) dX7_seed_11 ?_
    refine lv_istore_n (lv' := [(2, .int (M.1 252 5)), (0, .ref (E.2.1 251)), (1, .int x1)]) hx hb dX7_seed_12 rfl hl (by decide) rfl (fun ls hl => ?_)
    refine lv_aload_n hx hb dX7_seed_13 rfl (lv_at hl 1 rfl) ?_
    refine ur_get C h 251 (by decide) (uc_251 E _) (Cn := RX7) (T := TX7) (N := 17) rfl hin7 0 (by decide) (by decide +kernel) rfl dX7_seed_14 ?_
    refine lv_iconst (v := 5) hx hb dX7_seed_17 (by decide) ?_
    refine lv_iload_n hx hb dX7_seed_18 rfl (lv_at hl 2 rfl) ?_
    refine ur_iast C h 252 (by decide) (uc_252 E) (5) (by decide) (by decide) dX7_seed_19 (fun M_2 H locs eM_2 h => ?_)
    refine lv_iload_n hx hb dX7_seed_20 rfl (lv_at hl 0 rfl) ?_
    exact ur_iret C h hr hlocks (by rw [if_pos c_1]; subst eM_2; exact ⟨rfl, rfl⟩) dX7_seed_21
  · skip
    refine lv_iconst (v := (-1)) hx hb dX7_seed_4 (by decide) ?_
    exact ur_iret C h hr hlocks (by rw [if_neg c_1]; exact ⟨rfl, rfl⟩) dX7_seed_5
set_option maxHeartbeats 4000000 in
set_option maxRecDepth 100000 in
theorem k_X7_undo (l : Launch) (E : uE) (hI : uI E) (M : uM) (k : Nat) (hk : M.1 251 8 = nI k) (hk8 : k ≤ 8) : Met l yX7_undo wsX7_undo ({ frames := 0, cells := 0, slots := 0, locals := 0 }) (va_Pc [.ref (E.2.1 251)] (uB E M)) (va_Qi (fun r u => if k = 0 then r = -4 ∧ M = u else u = mUndo M k ∧ r = nI (k - 1)) (uP E) (uA E)) 0 0 (uA E) := by
  have hin7 : ∀ w ∈ wsX70, w ∈ wsX7_undo := by decide +kernel
  refine u_start (cc := cX7_undo) (maxL := 3) (ret := (some .int)) hI (by decide) rfl (Nat.le_of_ble_eq_true rfl) ?_
  intro p_ e_ s_ m_ bl_ me_ c_ C hr hlocks h ls hl
  have hx := C.1.1
  have hb := C.1.2.1
  have hown : s_.vm.findClass RX7 = some m_.cls := C.1.2.2.2.1
  have hts := C.1.2.2.2.2
  have hl : lv_has ls 3 [(0, .ref (E.2.1 251))] := hl
  refine lv_aload_n hx hb dX7_undo_0 rfl (lv_at hl 0 rfl) ?_
  refine ur_get C h 251 (by decide) (uc_251 E _) (Cn := RX7) (T := TX7) (N := 17) rfl hin7 8 (by decide) (by decide +kernel) rfl dX7_undo_1 ?_
  refine ur_eq (y := nI k) (hk) ?_
  refine lv_if_ne (tgt := 10) hx hb dX7_undo_4 (by decide) (fun c_1 => ?_) (fun c_1 => ?_)
  · skip
    have c_1 : ¬ k = 0 := fun z => c_1 ((nI_eq (a := k) (b := 0) (by omega) (by omega)).mpr z)
    refine lv_aload_n hx hb dX7_undo_10 rfl (lv_at hl 0 rfl) ?_
    refine lv_dup hx hb dX7_undo_11 rfl ?_
    refine ur_get C h 251 (by decide) (uc_251 E _) (Cn := RX7) (T := TX7) (N := 17) rfl hin7 8 (by decide) (by decide +kernel) rfl dX7_undo_12 ?_
    refine ur_eq (y := nI k) (hk) ?_
    refine lv_iconst (v := 1) hx hb dX7_undo_15 (by decide) ?_
    refine lv_isub hx hb dX7_undo_16 ?_
    refine ur_eq (y := nI (k - 1)) ((pk_sub (a := k) (b := 1) (by omega)).trans (congrArg nI (by omega))) ?_
    refine ur_puti C h 251 (by decide) (uc_251 E _) (Cn := RX7) (T := TX7) (N := 17) rfl hin7 tyX7 tyX7_ok nmX7 8 (by decide) (by decide +kernel) rfl rfl rfl (Nat.le_of_ble_eq_true rfl) (us_251_8 E _ _) dX7_undo_17 (fun M_2 H locs eM_2 h => ?_)
    refine lv_bipush (v := 115) hx hb dX7_undo_20 (by decide) ?_
    refine lv_aload_n hx hb dX7_undo_22 rfl (lv_at hl 0 rfl) ?_
    refine ur_get C h 251 (by decide) (uc_251 E _) (Cn := RX7) (T := TX7) (N := 17) rfl hin7 8 (by decide) (by decide +kernel) rfl dX7_undo_23 ?_
    refine ur_eq (y := nI (k - 1)) (by rw [eM_2, u_set1, if_pos rfl, if_pos rfl]; try rfl) ?_
    refine lv_imul hx hb dX7_undo_26 ?_
    refine ur_eq (y := nI (115 * (k - 1))) (pk_mul 115 (k - 1)) ?_
    refine lv_istore_n (lv' := [(1, .int (nI (115 * (k - 1)))), (0, .ref (E.2.1 251))]) hx hb dX7_undo_27 rfl hl (by decide) rfl (fun ls hl => ?_)
    refine lv_iconst (v := 4) hx hb dX7_undo_28 (by decide) ?_
    refine lv_istore_n (lv' := [(2, .int 4), (1, .int (nI (115 * (k - 1)))), (0, .ref (E.2.1 251))]) hx hb dX7_undo_29 rfl hl (by decide) rfl (fun ls hl => ?_)
    have lp30 : ∀ (n30 : Nat) (i : Nat) (Mi : uM), 3 - i < n30 → i ≤ 3 → Mi = uRow M_2 252 (va_cpy (M_2.1 256) (M_2.1 252) (115 * (k - 1) + 4) 4 i) → ∀ (H : Heap) (locs : List Loc) (ls : Array Slot), uH E Mi s_ H locs → lv_has ls 3 [(2, .int (nI (4 + i))), (1, .int (nI (115 * (k - 1)))), (0, .ref (E.2.1 251))] → W p_ l e_ ({ frames := 0, cells := 0, slots := 0, locals := 0 }) s_ m_ (List.toArray [.ref (E.2.1 251)]) bl_ me_ c_ H locs 0 0 (MQ bl_ (va_Qi (fun r u => if k = 0 then r = -4 ∧ M = u else u = mUndo M k ∧ r = nI (k - 1)) (uP E) (uA E)) (List.toArray [.ref (E.2.1 251)]) s_ 0 0 (uA E)) (F0 m_ 30 ls []) := by
      intro n30
      induction n30 with
      | zero => intro i Mi hms; exact absurd hms (Nat.not_lt_zero _)
      | succ n30 ih30 =>
        intro i Mi hms30 hi hMi H locs ls h hl
        refine lv_iload_n hx hb dX7_undo_30 rfl (lv_at hl 0 rfl) ?_
        refine lv_bipush (v := 6) hx hb dX7_undo_31 (by decide) ?_
        refine lv_icmp_gt (tgt := 56) hx hb dX7_undo_33 (by decide) (fun c_3 => ?_) (fun c_3 => ?_)
        · skip
          have c_3 : 6 < (4 + i) := (nI_ltI (a := 6) (b := (4 + i)) (by omega) (by omega)).mp c_3
          refine lv_iconst (v := 0) hx hb dX7_undo_56 (by decide) ?_
          refine lv_istore_n (lv' := [(2, .int 0), (1, .int (nI (115 * (k - 1)))), (0, .ref (E.2.1 251))]) hx hb dX7_undo_57 rfl hl (by decide) rfl (fun ls hl => ?_)
          have lp58 : ∀ (n58 : Nat) (i2 : Nat) (Mi2 : uM), 6 - i2 < n58 → i2 ≤ 6 → Mi2 = mUnd2 Mi (115 * (k - 1)) i2 → ∀ (H : Heap) (locs : List Loc) (ls : Array Slot), uH E Mi2 s_ H locs → lv_has ls 3 [(2, .int (nI i2)), (1, .int (nI (115 * (k - 1)))), (0, .ref (E.2.1 251))] → W p_ l e_ ({ frames := 0, cells := 0, slots := 0, locals := 0 }) s_ m_ (List.toArray [.ref (E.2.1 251)]) bl_ me_ c_ H locs 0 0 (MQ bl_ (va_Qi (fun r u => if k = 0 then r = -4 ∧ M = u else u = mUndo M k ∧ r = nI (k - 1)) (uP E) (uA E)) (List.toArray [.ref (E.2.1 251)]) s_ 0 0 (uA E)) (F0 m_ 58 ls []) := by
            intro n58
            induction n58 with
            | zero => intro i2 Mi2 hms; exact absurd hms (Nat.not_lt_zero _)
            | succ n58 ih58 =>
              intro i2 Mi2 hms58 hi2 hMi2 H locs ls h hl
              refine lv_iload_n hx hb dX7_undo_58 rfl (lv_at hl 0 rfl) ?_
              refine lv_bipush (v := 6) hx hb dX7_undo_59 (by decide) ?_
              refine lv_icmp_ge (tgt := 130) hx hb dX7_undo_61 (by decide) (fun c_4 => ?_) (fun c_4 => ?_)
              · skip
                have c_4 : 6 ≤ i2 := (nI_leI (a := 6) (b := i2) (by omega) (by omega)).mp c_4
                refine lv_bipush (v := 67) hx hb dX7_undo_130 (by decide) ?_
                refine lv_istore_n (lv' := [(2, .int 67), (1, .int (nI (115 * (k - 1)))), (0, .ref (E.2.1 251))]) hx hb dX7_undo_132 rfl hl (by decide) rfl (fun ls hl => ?_)
                have lp133 : ∀ (n133 : Nat) (i3 : Nat) (Mi3 : uM), 48 - i3 < n133 → i3 ≤ 48 → Mi3 = uRow Mi2 252 (va_cpy (Mi2.1 256) (Mi2.1 252) (115 * (k - 1) + 67) 67 i3) → ∀ (H : Heap) (locs : List Loc) (ls : Array Slot), uH E Mi3 s_ H locs → lv_has ls 3 [(2, .int (nI (67 + i3))), (1, .int (nI (115 * (k - 1)))), (0, .ref (E.2.1 251))] → W p_ l e_ ({ frames := 0, cells := 0, slots := 0, locals := 0 }) s_ m_ (List.toArray [.ref (E.2.1 251)]) bl_ me_ c_ H locs 0 0 (MQ bl_ (va_Qi (fun r u => if k = 0 then r = -4 ∧ M = u else u = mUndo M k ∧ r = nI (k - 1)) (uP E) (uA E)) (List.toArray [.ref (E.2.1 251)]) s_ 0 0 (uA E)) (F0 m_ 133 ls []) := by
                  intro n133
                  induction n133 with
                  | zero => intro i3 Mi3 hms; exact absurd hms (Nat.not_lt_zero _)
                  | succ n133 ih133 =>
                    intro i3 Mi3 hms133 hi3 hMi3 H locs ls h hl
                    refine lv_iload_n hx hb dX7_undo_133 rfl (lv_at hl 0 rfl) ?_
                    refine lv_bipush (v := 115) hx hb dX7_undo_134 (by decide) ?_
                    refine lv_icmp_ge (tgt := 159) hx hb dX7_undo_136 (by decide) (fun c_5 => ?_) (fun c_5 => ?_)
                    · skip
                      have c_5 : 115 ≤ (67 + i3) := (nI_leI (a := 115) (b := (67 + i3)) (by omega) (by omega)).mp c_5
                      refine lv_aload_n hx hb dX7_undo_159 rfl (lv_at hl 2 rfl) ?_
                      refine ur_get C h 251 (by decide) (uc_251 E _) (Cn := RX7) (T := TX7) (N := 17) rfl hin7 8 (by decide) (by decide +kernel) rfl dX7_undo_160 ?_
                      refine ur_eq (y := nI (k - 1)) ((by rw [hMi3, u_row1, if_neg (by decide)]; exact (by rw [hMi2, mUnd2_251]; exact (by rw [hMi, u_row1, if_neg (by decide)]; exact (by rw [eM_2, u_set1, if_pos rfl, if_pos rfl]; try rfl))))) ?_
                      exact ur_iret C h hr hlocks (by rw [if_neg (by omega)]; refine ⟨?_, rfl⟩; rw [hMi3, show i3 = 48 by omega, hMi2, show i2 = 6 by omega, hMi, show i = 3 by omega]; subst eM_2; rfl) dX7_undo_163
                    · skip
                      have c_5 : ¬ 115 ≤ (67 + i3) := fun z => c_5 ((nI_leI (a := 115) (b := (67 + i3)) (by omega) (by omega)).mpr z)
                      refine lv_aload_n hx hb dX7_undo_139 rfl (lv_at hl 2 rfl) ?_
                      refine ur_get C h 251 (by decide) (uc_251 E _) (Cn := RX7) (T := TX7) (N := 17) rfl hin7 0 (by decide) (by decide +kernel) rfl dX7_undo_140 ?_
                      refine lv_iload_n hx hb dX7_undo_143 rfl (lv_at hl 0 rfl) ?_
                      refine lv_aload_n hx hb dX7_undo_144 rfl (lv_at hl 2 rfl) ?_
                      refine ur_get C h 251 (by decide) (uc_251 E _) (Cn := RX7) (T := TX7) (N := 17) rfl hin7 7 (by decide) (by decide +kernel) rfl dX7_undo_145 ?_
                      refine lv_iload_n hx hb dX7_undo_148 rfl (lv_at hl 1 rfl) ?_
                      refine lv_iload_n hx hb dX7_undo_149 rfl (lv_at hl 0 rfl) ?_
                      refine lv_iadd hx hb dX7_undo_150 ?_
                      refine ur_eq (y := nI (115 * (k - 1) + (67 + i3))) (nI_add (115 * (k - 1)) (67 + i3)) ?_
                      refine ur_iald C h 256 (by decide) (uc_256 E _) (115 * (k - 1) + (67 + i3)) (by omega) (by decide) dX7_undo_151 ?_
                      refine ur_iast C h 252 (by decide) (uc_252 E) (67 + i3) (by omega) (by decide) dX7_undo_152 (fun M_6 H locs eM_6 h => ?_)
                      refine lv_iinc (v := nI (67 + i3 + 1)) (lv' := [(2, .int (nI (67 + i3 + 1))), (1, .int (nI (115 * (k - 1)))), (0, .ref (E.2.1 251))]) hx hb dX7_undo_153 hl (k := 0) rfl (nI_add (67 + i3) 1) (by decide) rfl (fun ls hl => ?_)
                      refine lv_goto (tgt := 133) hx hb dX7_undo_156 (by decide) ?_
                      exact ih133  (i3 + 1) M_6 (by omega) (by omega) (by rw [eM_6, hMi3]; exact u_cpS (by omega) (by rw [u_row1, if_neg (by decide)]; exact congrArg _ (by omega))) _ _ _ h (lv_sub hl [0, 1, 2] rfl)
                exact lp133 _ 0 Mi2 (Nat.lt_succ_self _) (by omega) u_cp0 _ _ _ h (lv_sub hl [0, 1, 2] rfl)
              · skip
                have c_4 : ¬ 6 ≤ i2 := fun z => c_4 ((nI_leI (a := 6) (b := i2) (by omega) (by omega)).mpr z)
                refine lv_aload_n hx hb dX7_undo_64 rfl (lv_at hl 2 rfl) ?_
                refine ur_get C h 251 (by decide) (uc_251 E _) (Cn := RX7) (T := TX7) (N := 17) rfl hin7 0 (by decide) (by decide +kernel) rfl dX7_undo_65 ?_
                refine lv_bipush (v := 7) hx hb dX7_undo_68 (by decide) ?_
                refine lv_bipush (v := 10) hx hb dX7_undo_70 (by decide) ?_
                refine lv_iload_n hx hb dX7_undo_72 rfl (lv_at hl 0 rfl) ?_
                refine lv_imul hx hb dX7_undo_73 ?_
                refine ur_eq (y := nI (10 * i2)) (pk_mul 10 i2) ?_
                refine lv_iadd hx hb dX7_undo_74 ?_
                refine ur_eq (y := nI (7 + 10 * i2)) (nI_add 7 (10 * i2)) ?_
                refine lv_iconst (v := 2) hx hb dX7_undo_75 (by decide) ?_
                refine lv_iadd hx hb dX7_undo_76 ?_
                refine ur_eq (y := nI (7 + 10 * i2 + 2)) (nI_add (7 + 10 * i2) 2) ?_
                refine lv_aload_n hx hb dX7_undo_77 rfl (lv_at hl 2 rfl) ?_
                refine ur_get C h 251 (by decide) (uc_251 E _) (Cn := RX7) (T := TX7) (N := 17) rfl hin7 7 (by decide) (by decide +kernel) rfl dX7_undo_78 ?_
                refine lv_iload_n hx hb dX7_undo_81 rfl (lv_at hl 1 rfl) ?_
                refine lv_bipush (v := 7) hx hb dX7_undo_82 (by decide) ?_
                refine lv_iadd hx hb dX7_undo_84 ?_
                refine ur_eq (y := nI (115 * (k - 1) + 7)) (nI_add (115 * (k - 1)) 7) ?_
                refine lv_bipush (v := 10) hx hb dX7_undo_85 (by decide) ?_
                refine lv_iload_n hx hb dX7_undo_87 rfl (lv_at hl 0 rfl) ?_
                refine lv_imul hx hb dX7_undo_88 ?_
                refine ur_eq (y := nI (10 * i2)) (pk_mul 10 i2) ?_
                refine lv_iadd hx hb dX7_undo_89 ?_
                refine ur_eq (y := nI (115 * (k - 1) + 7 + 10 * i2)) (nI_add (115 * (k - 1) + 7) (10 * i2)) ?_
                refine lv_iconst (v := 2) hx hb dX7_undo_90 (by decide) ?_
                refine lv_iadd hx hb dX7_undo_91 ?_
                refine ur_eq (y := nI (115 * (k - 1) + 7 + 10 * i2 + 2)) (nI_add (115 * (k - 1) + 7 + 10 * i2) 2) ?_
                refine ur_iald C h 256 (by decide) (uc_256 E _) (115 * (k - 1) + 7 + 10 * i2 + 2) (by omega) (by decide) dX7_undo_92 ?_
                refine ur_iast C h 252 (by decide) (uc_252 E) (7 + 10 * i2 + 2) (by omega) (by decide) dX7_undo_93 (fun M_7 H locs eM_7 h => ?_)
                refine lv_aload_n hx hb dX7_undo_94 rfl (lv_at hl 2 rfl) ?_
                refine ur_get C h 251 (by decide) (uc_251 E _) (Cn := RX7) (T := TX7) (N := 17) rfl hin7 0 (by decide) (by decide +kernel) rfl dX7_undo_95 ?_
                refine lv_bipush (v := 7) hx hb dX7_undo_98 (by decide) ?_
                refine lv_bipush (v := 10) hx hb dX7_undo_100 (by decide) ?_
                refine lv_iload_n hx hb dX7_undo_102 rfl (lv_at hl 0 rfl) ?_
                refine lv_imul hx hb dX7_undo_103 ?_
                refine ur_eq (y := nI (10 * i2)) (pk_mul 10 i2) ?_
                refine lv_iadd hx hb dX7_undo_104 ?_
                refine ur_eq (y := nI (7 + 10 * i2)) (nI_add 7 (10 * i2)) ?_
                refine lv_iconst (v := 3) hx hb dX7_undo_105 (by decide) ?_
                refine lv_iadd hx hb dX7_undo_106 ?_
                refine ur_eq (y := nI (7 + 10 * i2 + 3)) (nI_add (7 + 10 * i2) 3) ?_
                refine lv_aload_n hx hb dX7_undo_107 rfl (lv_at hl 2 rfl) ?_
                refine ur_get C h 251 (by decide) (uc_251 E _) (Cn := RX7) (T := TX7) (N := 17) rfl hin7 7 (by decide) (by decide +kernel) rfl dX7_undo_108 ?_
                refine lv_iload_n hx hb dX7_undo_111 rfl (lv_at hl 1 rfl) ?_
                refine lv_bipush (v := 7) hx hb dX7_undo_112 (by decide) ?_
                refine lv_iadd hx hb dX7_undo_114 ?_
                refine ur_eq (y := nI (115 * (k - 1) + 7)) (nI_add (115 * (k - 1)) 7) ?_
                refine lv_bipush (v := 10) hx hb dX7_undo_115 (by decide) ?_
                refine lv_iload_n hx hb dX7_undo_117 rfl (lv_at hl 0 rfl) ?_
                refine lv_imul hx hb dX7_undo_118 ?_
                refine ur_eq (y := nI (10 * i2)) (pk_mul 10 i2) ?_
                refine lv_iadd hx hb dX7_undo_119 ?_
                refine ur_eq (y := nI (115 * (k - 1) + 7 + 10 * i2)) (nI_add (115 * (k - 1) + 7) (10 * i2)) ?_
                refine lv_iconst (v := 3) hx hb dX7_undo_120 (by decide) ?_
                refine lv_iadd hx hb dX7_undo_121 ?_
                refine ur_eq (y := nI (115 * (k - 1) + 7 + 10 * i2 + 3)) (nI_add (115 * (k - 1) + 7 + 10 * i2) 3) ?_
                refine ur_iald C h 256 (by decide) (uc_256 E _) (115 * (k - 1) + 7 + 10 * i2 + 3) (by omega) (by decide) dX7_undo_122 ?_
                refine ur_iast C h 252 (by decide) (uc_252 E) (7 + 10 * i2 + 3) (by omega) (by decide) dX7_undo_123 (fun M_8 H locs eM_8 h => ?_)
                refine lv_iinc (v := nI (i2 + 1)) (lv' := [(2, .int (nI (i2 + 1))), (1, .int (nI (115 * (k - 1)))), (0, .ref (E.2.1 251))]) hx hb dX7_undo_124 hl (k := 0) rfl (nI_add i2 1) (by decide) rfl (fun ls hl => ?_)
                refine lv_goto (tgt := 58) hx hb dX7_undo_127 (by decide) ?_
                exact ih58  (i2 + 1) M_8 (by omega) (by omega) (by rw [eM_8, eM_7, hMi2]; rfl) _ _ _ h (lv_sub hl [0, 1, 2] rfl)
          exact lp58 _ 0 Mi (Nat.lt_succ_self _) (by omega) rfl _ _ _ h (lv_sub hl [0, 1, 2] rfl)
        · skip
          have c_3 : ¬ 6 < (4 + i) := fun z => c_3 ((nI_ltI (a := 6) (b := (4 + i)) (by omega) (by omega)).mpr z)
          refine lv_aload_n hx hb dX7_undo_36 rfl (lv_at hl 2 rfl) ?_
          refine ur_get C h 251 (by decide) (uc_251 E _) (Cn := RX7) (T := TX7) (N := 17) rfl hin7 0 (by decide) (by decide +kernel) rfl dX7_undo_37 ?_
          refine lv_iload_n hx hb dX7_undo_40 rfl (lv_at hl 0 rfl) ?_
          refine lv_aload_n hx hb dX7_undo_41 rfl (lv_at hl 2 rfl) ?_
          refine ur_get C h 251 (by decide) (uc_251 E _) (Cn := RX7) (T := TX7) (N := 17) rfl hin7 7 (by decide) (by decide +kernel) rfl dX7_undo_42 ?_
          refine lv_iload_n hx hb dX7_undo_45 rfl (lv_at hl 1 rfl) ?_
          refine lv_iload_n hx hb dX7_undo_46 rfl (lv_at hl 0 rfl) ?_
          refine lv_iadd hx hb dX7_undo_47 ?_
          refine ur_eq (y := nI (115 * (k - 1) + (4 + i))) (nI_add (115 * (k - 1)) (4 + i)) ?_
          refine ur_iald C h 256 (by decide) (uc_256 E _) (115 * (k - 1) + (4 + i)) (by omega) (by decide) dX7_undo_48 ?_
          refine ur_iast C h 252 (by decide) (uc_252 E) (4 + i) (by omega) (by decide) dX7_undo_49 (fun M_9 H locs eM_9 h => ?_)
          refine lv_iinc (v := nI (4 + i + 1)) (lv' := [(2, .int (nI (4 + i + 1))), (1, .int (nI (115 * (k - 1)))), (0, .ref (E.2.1 251))]) hx hb dX7_undo_50 hl (k := 0) rfl (nI_add (4 + i) 1) (by decide) rfl (fun ls hl => ?_)
          refine lv_goto (tgt := 30) hx hb dX7_undo_53 (by decide) ?_
          exact ih30  (i + 1) M_9 (by omega) (by omega) (by rw [eM_9, hMi]; exact u_cpS (by omega) (by rw [u_row1, if_neg (by decide)]; exact congrArg _ (by omega))) _ _ _ h (lv_sub hl [0, 1, 2] rfl)
    exact lp30 _ 0 M_2 (Nat.lt_succ_self _) (by omega) u_cp0 _ _ _ h (lv_sub hl [0, 1, 2] rfl)
  · skip
    have c_1 : k = 0 := (nI_eq (a := k) (b := 0) (by omega) (by omega)).mp c_1
    refine lv_bipush (v := (-4)) hx hb dX7_undo_7 (by decide) ?_
    exact ur_iret C h hr hlocks (by rw [if_pos (by omega)]; exact ⟨rfl, rfl⟩) dX7_undo_9
set_option maxHeartbeats 4000000 in
set_option maxRecDepth 100000 in
theorem k_X7_pass (l : Launch) (E : uE) (hI : uI E) (M : uM) (x1 x2 x3 : Int32) (n : Nat) (hn : M.1 252 0 = nI n) (hn6 : n ≤ 6) (nw : Nat) (hnw : M.1 252 1 = nI nw) (hnw6 : nw ≤ 6) (ht : ¬ M.1 252 3 = 0) : Met l yX7_pass wsX7_pass ({ frames := 4, cells := 0, slots := 0, locals := 100 }) (va_Pc [.ref (E.2.1 251), .int x1, .int x2, .int x3] (uB E M)) (va_Qi (fun r u => M = u ∧ r = if (0 ≤ x1.toInt ∧ x1.toInt < n) ∧ (0 ≤ x2.toInt ∧ x2.toInt < nw) ∧ (x3 = -4 ∨ (0 ≤ x3.toInt ∧ x3.toInt ≤ 9999)) then mPassIn M (tn x1) (tn x2) (if x3 = -4 then M.1 252 4 else x3) else -1) (uP E) (uA E)) 0 0 (uA E) := by
  have hin7 : ∀ w ∈ wsX70, w ∈ wsX7_pass := by decide +kernel
  refine u_start (cc := cX7_pass) (maxL := 4) (ret := (some .int)) hI (by decide) rfl (Nat.le_of_ble_eq_true rfl) ?_
  intro p_ e_ s_ m_ bl_ me_ c_ C hr hlocks h ls hl
  have hx := C.1.1
  have hb := C.1.2.1
  have hown : s_.vm.findClass RX7 = some m_.cls := C.1.2.2.2.1
  have hts := C.1.2.2.2.2
  have hl : lv_has ls 4 [(0, .ref (E.2.1 251)), (1, .int x1), (2, .int x2), (3, .int x3)] := hl
  refine lv_aload_n hx hb dX7_pass_0 rfl (lv_at hl 0 rfl) ?_
  refine lv_iload_n hx hb dX7_pass_1 rfl (lv_at hl 1 rfl) ?_
  refine ur_callVi C h (k := 251) (As := [.int x1]) (rest := []) (k_X7_isSpeaker l E hI M x1 n hn hn6) (cwV 1 hts gX7_pass_X7_isSpeaker rfl rfl rfl (by decide +kernel) ⟨Nat.le_of_ble_eq_true rfl, Nat.le_of_ble_eq_true rfl⟩) (by decide) (uc_251 E _) (T := TX7) (N := 17) rfl rfl hl.1 rfl (Nat.le_of_ble_eq_true rfl) dX7_pass_2 (fun r_1 M_2 H locs hw_2 h => ?_)
  obtain ⟨hu, er_1⟩ := hw_2
  subst hu
  refine lv_if_eq (tgt := 34) hx hb dX7_pass_5 (by decide) (fun c_3 => ?_) (fun c_3 => ?_)
  · skip
    have c_3 : ¬ (0 ≤ x1.toInt ∧ x1.toInt < n) := uz_f er_1 c_3
    refine lv_iconst (v := (-1)) hx hb dX7_pass_34 (by decide) ?_
    exact ur_iret C h hr hlocks (⟨rfl, by rw [if_neg (fun z => by first | (have := z.1; omega) | (have := z.2.1; omega) | (rcases z.2.2 with z | z <;> contradiction))]⟩) dX7_pass_35
  · skip
    have c_3 : 0 ≤ x1.toInt ∧ x1.toInt < n := uz_t er_1 c_3
    refine lv_aload_n hx hb dX7_pass_8 rfl (lv_at hl 0 rfl) ?_
    refine lv_iload_n hx hb dX7_pass_9 rfl (lv_at hl 2 rfl) ?_
    refine ur_callVi C h (k := 251) (As := [.int x2]) (rest := []) (k_X7_isWord l E hI M x2 nw hnw hnw6) (cwV 1 hts gX7_pass_X7_isWord rfl rfl rfl (by decide +kernel) ⟨Nat.le_of_ble_eq_true rfl, Nat.le_of_ble_eq_true rfl⟩) (by decide) (uc_251 E _) (T := TX7) (N := 17) rfl rfl hl.1 rfl (Nat.le_of_ble_eq_true rfl) dX7_pass_10 (fun r_4 M_5 H locs hw_5 h => ?_)
    obtain ⟨hu, er_4⟩ := hw_5
    subst hu
    refine lv_if_eq (tgt := 34) hx hb dX7_pass_13 (by decide) (fun c_6 => ?_) (fun c_6 => ?_)
    · skip
      have c_6 : ¬ (0 ≤ x2.toInt ∧ x2.toInt < nw) := uz_f er_4 c_6
      refine lv_iconst (v := (-1)) hx hb dX7_pass_34 (by decide) ?_
      exact ur_iret C h hr hlocks (⟨rfl, by rw [if_neg (fun z => by first | (have := z.1; omega) | (have := z.2.1; omega) | (rcases z.2.2 with z | z <;> contradiction))]⟩) dX7_pass_35
    · skip
      have c_6 : 0 ≤ x2.toInt ∧ x2.toInt < nw := uz_t er_4 c_6
      refine lv_iload_n hx hb dX7_pass_16 rfl (lv_at hl 3 rfl) ?_
      refine lv_bipush (v := (-4)) hx hb dX7_pass_17 (by decide) ?_
      refine lv_icmp_eq (tgt := 36) hx hb dX7_pass_19 (by decide) (fun c_7 => ?_) (fun c_7 => ?_)
      · skip
        obtain ⟨hnx1, enx1⟩ := u_tn c_3 (by omega)
        obtain ⟨hnx2, enx2⟩ := u_tn c_6 (by omega)
        refine lv_aload_n hx hb dX7_pass_36 rfl (lv_at hl 0 rfl) ?_
        refine lv_iload_n hx hb dX7_pass_37 rfl (lv_at hl 1 rfl) ?_
        refine ur_eq (y := nI (tn x1)) enx1 ?_
        refine lv_iload_n hx hb dX7_pass_38 rfl (lv_at hl 2 rfl) ?_
        refine ur_eq (y := nI (tn x2)) enx2 ?_
        refine lv_iload_n hx hb dX7_pass_39 rfl (lv_at hl 3 rfl) ?_
        refine lv_bipush (v := (-4)) hx hb dX7_pass_40 (by decide) ?_
        refine lv_icmp_ne (tgt := 54) hx hb dX7_pass_42 (by decide) (fun c_8 => ?_) (fun c_8 => ?_)
        · skip
          refine lv_iload_n hx hb dX7_pass_54 rfl (lv_at hl 3 rfl) ?_
          refine ur_callVi C h (k := 251) (As := [.int (nI (tn x1)), .int (nI (tn x2)), .int x3]) (rest := []) (k_X7_passIn l E hI M (tn x1) (tn x2) x3 (by omega) (by omega) ht) (cwV 3 hts gX7_pass_X7_passIn rfl rfl rfl (by decide +kernel) ⟨Nat.le_of_ble_eq_true rfl, Nat.le_of_ble_eq_true rfl⟩) (by decide) (uc_251 E _) (T := TX7) (N := 17) rfl rfl hl.1 rfl (Nat.le_of_ble_eq_true rfl) dX7_pass_55 (fun r_9 M_10 H locs hw_10 h => ?_)
          obtain ⟨hu, er_9⟩ := hw_10
          subst hu
          refine ur_eq (y := mPassIn M (tn x1) (tn x2) x3) er_9 ?_
          exact ur_iret C h hr hlocks (⟨rfl, by first | exact absurd c_7 c_8 | (rw [if_pos ⟨by assumption, by assumption, by first | exact Or.inl (by assumption) | exact Or.inr (by assumption)⟩]; simp [c_7, c_8])⟩) dX7_pass_58
        · skip
          refine lv_aload_n hx hb dX7_pass_45 rfl (lv_at hl 0 rfl) ?_
          refine ur_get C h 251 (by decide) (uc_251 E _) (Cn := RX7) (T := TX7) (N := 17) rfl hin7 0 (by decide) (by decide +kernel) rfl dX7_pass_46 ?_
          refine lv_iconst (v := 4) hx hb dX7_pass_49 (by decide) ?_
          refine ur_iald C h 252 (by decide) (uc_252 E _) (4) (by decide) (by decide) dX7_pass_50 ?_
          refine lv_goto (tgt := 55) hx hb dX7_pass_51 (by decide) ?_
          refine ur_callVi C h (k := 251) (As := [.int (nI (tn x1)), .int (nI (tn x2)), .int (M.1 252 4)]) (rest := []) (k_X7_passIn l E hI M (tn x1) (tn x2) (M.1 252 4) (by omega) (by omega) ht) (cwV 3 hts gX7_pass_X7_passIn rfl rfl rfl (by decide +kernel) ⟨Nat.le_of_ble_eq_true rfl, Nat.le_of_ble_eq_true rfl⟩) (by decide) (uc_251 E _) (T := TX7) (N := 17) rfl rfl hl.1 rfl (Nat.le_of_ble_eq_true rfl) dX7_pass_55 (fun r_11 M_12 H locs hw_12 h => ?_)
          obtain ⟨hu, er_11⟩ := hw_12
          subst hu
          refine ur_eq (y := mPassIn M (tn x1) (tn x2) (M.1 252 4)) er_11 ?_
          exact ur_iret C h hr hlocks (⟨rfl, by first | exact absurd c_7 c_8 | (rw [if_pos ⟨by assumption, by assumption, by first | exact Or.inl (by assumption) | exact Or.inr (by assumption)⟩]; simp [c_7, c_8])⟩) dX7_pass_58
      · skip
        refine lv_iload_n hx hb dX7_pass_22 rfl (lv_at hl 3 rfl) ?_
        refine lv_i2l (v := x3.toInt64) hx hb dX7_pass_23 rfl ?_
        refine lv_lconst (v := 0) hx hb dX7_pass_24 (by decide) ?_
        refine lv_ldc2 (v := 9999) hx hb hown (hts (.constantLong RX7 166 9999) (by decide +kernel)) dX7_pass_25 ?_
        refine ur_callSi C h (As := [.long x3.toInt64, .long 0, .long 9999]) (rest := []) (k_X7_in l E hI M x3.toInt64 0 9999) (va_cwS 3 hts gX7_pass_X7_in rfl rfl rfl (by decide +kernel) ⟨Nat.le_of_ble_eq_true rfl, Nat.le_of_ble_eq_true rfl⟩) rfl hl.1 rfl (Nat.le_of_ble_eq_true rfl) dX7_pass_28 (fun r_13 M_14 H locs hw_14 h => ?_)
        obtain ⟨hu, er_13⟩ := hw_14
        subst hu
        have er_13 : r_13 = if 0 ≤ x3.toInt ∧ x3.toInt ≤ 9999 then 1 else 0 := u_in (x := x3.toInt) (u_w _) rfl rfl er_13
        refine lv_if_ne (tgt := 36) hx hb dX7_pass_31 (by decide) (fun c_15 => ?_) (fun c_15 => ?_)
        · skip
          have c_15 : 0 ≤ x3.toInt ∧ x3.toInt ≤ 9999 := uz_t er_13 c_15
          obtain ⟨hnx1, enx1⟩ := u_tn c_3 (by omega)
          obtain ⟨hnx2, enx2⟩ := u_tn c_6 (by omega)
          refine lv_aload_n hx hb dX7_pass_36 rfl (lv_at hl 0 rfl) ?_
          refine lv_iload_n hx hb dX7_pass_37 rfl (lv_at hl 1 rfl) ?_
          refine ur_eq (y := nI (tn x1)) enx1 ?_
          refine lv_iload_n hx hb dX7_pass_38 rfl (lv_at hl 2 rfl) ?_
          refine ur_eq (y := nI (tn x2)) enx2 ?_
          refine lv_iload_n hx hb dX7_pass_39 rfl (lv_at hl 3 rfl) ?_
          refine lv_bipush (v := (-4)) hx hb dX7_pass_40 (by decide) ?_
          refine lv_icmp_ne (tgt := 54) hx hb dX7_pass_42 (by decide) (fun c_16 => ?_) (fun c_16 => ?_)
          · skip
            refine lv_iload_n hx hb dX7_pass_54 rfl (lv_at hl 3 rfl) ?_
            refine ur_callVi C h (k := 251) (As := [.int (nI (tn x1)), .int (nI (tn x2)), .int x3]) (rest := []) (k_X7_passIn l E hI M (tn x1) (tn x2) x3 (by omega) (by omega) ht) (cwV 3 hts gX7_pass_X7_passIn rfl rfl rfl (by decide +kernel) ⟨Nat.le_of_ble_eq_true rfl, Nat.le_of_ble_eq_true rfl⟩) (by decide) (uc_251 E _) (T := TX7) (N := 17) rfl rfl hl.1 rfl (Nat.le_of_ble_eq_true rfl) dX7_pass_55 (fun r_17 M_18 H locs hw_18 h => ?_)
            obtain ⟨hu, er_17⟩ := hw_18
            subst hu
            refine ur_eq (y := mPassIn M (tn x1) (tn x2) x3) er_17 ?_
            exact ur_iret C h hr hlocks (⟨rfl, by first | exact absurd c_7 c_16 | (rw [if_pos ⟨by assumption, by assumption, by first | exact Or.inl (by assumption) | exact Or.inr (by assumption)⟩]; simp [c_7, c_15, c_16])⟩) dX7_pass_58
          · skip
            refine lv_aload_n hx hb dX7_pass_45 rfl (lv_at hl 0 rfl) ?_
            refine ur_get C h 251 (by decide) (uc_251 E _) (Cn := RX7) (T := TX7) (N := 17) rfl hin7 0 (by decide) (by decide +kernel) rfl dX7_pass_46 ?_
            refine lv_iconst (v := 4) hx hb dX7_pass_49 (by decide) ?_
            refine ur_iald C h 252 (by decide) (uc_252 E _) (4) (by decide) (by decide) dX7_pass_50 ?_
            refine lv_goto (tgt := 55) hx hb dX7_pass_51 (by decide) ?_
            refine ur_callVi C h (k := 251) (As := [.int (nI (tn x1)), .int (nI (tn x2)), .int (M.1 252 4)]) (rest := []) (k_X7_passIn l E hI M (tn x1) (tn x2) (M.1 252 4) (by omega) (by omega) ht) (cwV 3 hts gX7_pass_X7_passIn rfl rfl rfl (by decide +kernel) ⟨Nat.le_of_ble_eq_true rfl, Nat.le_of_ble_eq_true rfl⟩) (by decide) (uc_251 E _) (T := TX7) (N := 17) rfl rfl hl.1 rfl (Nat.le_of_ble_eq_true rfl) dX7_pass_55 (fun r_19 M_20 H locs hw_20 h => ?_)
            obtain ⟨hu, er_19⟩ := hw_20
            subst hu
            refine ur_eq (y := mPassIn M (tn x1) (tn x2) (M.1 252 4)) er_19 ?_
            exact ur_iret C h hr hlocks (⟨rfl, by first | exact absurd c_7 c_16 | (rw [if_pos ⟨by assumption, by assumption, by first | exact Or.inl (by assumption) | exact Or.inr (by assumption)⟩]; simp [c_7, c_15, c_16])⟩) dX7_pass_58
        · skip
          have c_15 : ¬ (0 ≤ x3.toInt ∧ x3.toInt ≤ 9999) := uz_f er_13 c_15
          refine lv_iconst (v := (-1)) hx hb dX7_pass_34 (by decide) ?_
          exact ur_iret C h hr hlocks (⟨rfl, by rw [if_neg (fun z => by first | (have := z.1; omega) | (have := z.2.1; omega) | (rcases z.2.2 with z | z <;> contradiction))]⟩) dX7_pass_35
set_option maxHeartbeats 4000000 in
set_option maxRecDepth 100000 in
theorem k_X7_wrong (l : Launch) (E : uE) (hI : uI E) (M : uM) (p : Nat) (x2 : Int32) (hp : p < 6) : Met l yX7_wrong wsX7_wrong ({ frames := 1, cells := 0, slots := 0, locals := 22 }) (va_Pc [.ref (E.2.1 251), .int (nI p), .int x2] (uB E M)) (va_Qi (fun r u => M = u ∧ r = mWrong M p x2) (uP E) (uA E)) 0 0 (uA E) := by
  refine u_start (cc := cX7_wrong) (maxL := 3) (ret := (some .int)) hI (by decide) rfl (Nat.le_of_ble_eq_true rfl) ?_
  intro p_ e_ s_ m_ bl_ me_ c_ C hr hlocks h ls hl
  have hx := C.1.1
  have hb := C.1.2.1
  have hown : s_.vm.findClass RX7 = some m_.cls := C.1.2.2.2.1
  have hts := C.1.2.2.2.2
  have hl : lv_has ls 3 [(0, .ref (E.2.1 251)), (1, .int (nI p)), (2, .int x2)] := hl
  refine lv_aload_n hx hb dX7_wrong_0 rfl (lv_at hl 0 rfl) ?_
  refine lv_iload_n hx hb dX7_wrong_1 rfl (lv_at hl 1 rfl) ?_
  refine lv_iconst (v := 1) hx hb dX7_wrong_2 (by decide) ?_
  refine ur_callVi C h (k := 251) (As := [.int (nI p), .int 1]) (rest := []) (k_X7_told l E hI M p 1 (by omega)) (cwV 2 hts gX7_wrong_X7_told rfl rfl rfl (by decide +kernel) ⟨Nat.le_of_ble_eq_true rfl, Nat.le_of_ble_eq_true rfl⟩) (by decide) (uc_251 E _) (T := TX7) (N := 17) rfl rfl hl.1 rfl (Nat.le_of_ble_eq_true rfl) dX7_wrong_3 (fun r_1 M_2 H locs hw_2 h => ?_)
  obtain ⟨hu, er_1⟩ := hw_2
  subst hu
  refine ur_eq (y := M.1 252 (7 + 10 * p + 1)) er_1 ?_
  refine lv_if_ne (tgt := 16) hx hb dX7_wrong_6 (by decide) (fun c_3 => ?_) (fun c_3 => ?_)
  · skip
    refine lv_iload_n hx hb dX7_wrong_16 rfl (lv_at hl 2 rfl) ?_
    exact ur_iret C h hr hlocks (by refine ⟨rfl, ?_⟩; simp [mWrong, c_3]) dX7_wrong_17
  · skip
    refine lv_ldc (v := 1000000) hx hb hown (hts (.constant RX7 59 1000000) (by decide +kernel)) dX7_wrong_9 ?_
    refine lv_iload_n hx hb dX7_wrong_11 rfl (lv_at hl 2 rfl) ?_
    refine lv_isub hx hb dX7_wrong_12 ?_
    refine lv_goto (tgt := 17) hx hb dX7_wrong_13 (by decide) ?_
    exact ur_iret C h hr hlocks (by refine ⟨rfl, ?_⟩; simp [mWrong, c_3]) dX7_wrong_17
set_option maxHeartbeats 4000000 in
set_option maxRecDepth 100000 in
theorem k_X7_wrongsOf (l : Launch) (E : uE) (hI : uI E) (M : uM) (w : Nat) (hw : w < 6) (n : Nat) (hn : M.1 252 0 = nI n) (hn6 : n ≤ 6) (ht : ¬ M.1 252 3 = 0) : Met l yX7_wrongsOf wsX7_wrongsOf ({ frames := 5, cells := 0, slots := 0, locals := 122 }) (va_Pc [.ref (E.2.1 251), .int (nI w)] (uB E M)) (va_Qi (fun r u => M = u ∧ r = mWrongs M n w) (uP E) (uA E)) 0 0 (uA E) := by
  have hin7 : ∀ w ∈ wsX70, w ∈ wsX7_wrongsOf := by decide +kernel
  refine u_start (cc := cX7_wrongsOf) (maxL := 4) (ret := (some .int)) hI (by decide) rfl (Nat.le_of_ble_eq_true rfl) ?_
  intro p_ e_ s_ m_ bl_ me_ c_ C hr hlocks h ls hl
  have hx := C.1.1
  have hb := C.1.2.1
  have hown : s_.vm.findClass RX7 = some m_.cls := C.1.2.2.2.1
  have hts := C.1.2.2.2.2
  have hl : lv_has ls 4 [(0, .ref (E.2.1 251)), (1, .int (nI w))] := hl
  refine lv_iconst (v := 0) hx hb dX7_wrongsOf_0 (by decide) ?_
  refine lv_istore_n (lv' := [(2, .int 0), (0, .ref (E.2.1 251)), (1, .int (nI w))]) hx hb dX7_wrongsOf_1 rfl hl (by decide) rfl (fun ls hl => ?_)
  refine lv_iconst (v := 0) hx hb dX7_wrongsOf_2 (by decide) ?_
  refine lv_istore_n (lv' := [(3, .int 0), (2, .int 0), (0, .ref (E.2.1 251)), (1, .int (nI w))]) hx hb dX7_wrongsOf_3 rfl hl (by decide) rfl (fun ls hl => ?_)
  have lp4 : ∀ (n4 : Nat) (i : Nat) (v : Int32), n - i < n4 → i ≤ n → v = uSum (fun p => if mFate M p = 0 then mWrong M p (mPassIn M p w (M.1 252 4)) else 0) i → ∀ (H : Heap) (locs : List Loc) (ls : Array Slot), uH E M s_ H locs → lv_has ls 4 [(3, .int (nI i)), (2, .int v), (0, .ref (E.2.1 251)), (1, .int (nI w))] → W p_ l e_ ({ frames := 5, cells := 0, slots := 0, locals := 122 }) s_ m_ (List.toArray [.ref (E.2.1 251), .int (nI w)]) bl_ me_ c_ H locs 0 0 (MQ bl_ (va_Qi (fun r u => M = u ∧ r = mWrongs M n w) (uP E) (uA E)) (List.toArray [.ref (E.2.1 251), .int (nI w)]) s_ 0 0 (uA E)) (F0 m_ 4 ls []) := by
    intro n4
    induction n4 with
    | zero => intro i v hms; exact absurd hms (Nat.not_lt_zero _)
    | succ n4 ih4 =>
      intro i v hms4 hi hv H locs ls h hl
      refine lv_iload_n hx hb dX7_wrongsOf_4 rfl (lv_at hl 0 rfl) ?_
      refine lv_aload_n hx hb dX7_wrongsOf_5 rfl (lv_at hl 2 rfl) ?_
      refine ur_get C h 251 (by decide) (uc_251 E _) (Cn := RX7) (T := TX7) (N := 17) rfl hin7 0 (by decide) (by decide +kernel) rfl dX7_wrongsOf_6 ?_
      refine lv_iconst (v := 0) hx hb dX7_wrongsOf_9 (by decide) ?_
      refine ur_iald C h 252 (by decide) (uc_252 E _) (0) (by decide) (by decide) dX7_wrongsOf_10 ?_
      refine ur_eq (y := nI n) (hn) ?_
      refine lv_icmp_ge (tgt := 47) hx hb dX7_wrongsOf_11 (by decide) (fun c_1 => ?_) (fun c_1 => ?_)
      · skip
        have c_1 : n ≤ i := (nI_leI (a := n) (b := i) (by omega) (by omega)).mp c_1
        refine lv_iload_n hx hb dX7_wrongsOf_47 rfl (lv_at hl 1 rfl) ?_
        exact ur_iret C h hr hlocks (⟨rfl, by rw [hv, show i = n by omega]; rfl⟩) dX7_wrongsOf_48
      · skip
        have c_1 : ¬ n ≤ i := fun z => c_1 ((nI_leI (a := n) (b := i) (by omega) (by omega)).mpr z)
        refine lv_iload_n hx hb dX7_wrongsOf_14 rfl (lv_at hl 1 rfl) ?_
        refine lv_aload_n hx hb dX7_wrongsOf_15 rfl (lv_at hl 2 rfl) ?_
        refine lv_iload_n hx hb dX7_wrongsOf_16 rfl (lv_at hl 0 rfl) ?_
        refine lv_iconst (v := 2) hx hb dX7_wrongsOf_17 (by decide) ?_
        refine ur_callVi C h (k := 251) (As := [.int (nI i), .int 2]) (rest := [.int v]) (k_X7_told l E hI M i 2 (by omega)) (cwV 2 hts gX7_wrongsOf_X7_told rfl rfl rfl (by decide +kernel) ⟨Nat.le_of_ble_eq_true rfl, Nat.le_of_ble_eq_true rfl⟩) (by decide) (uc_251 E _) (T := TX7) (N := 17) rfl rfl hl.1 rfl (Nat.le_of_ble_eq_true rfl) dX7_wrongsOf_18 (fun r_2 M_3 H locs hw_3 h => ?_)
        obtain ⟨hu, er_2⟩ := hw_3
        subst hu
        refine ur_eq (y := M.1 252 (7 + 10 * i + 2)) er_2 ?_
        refine lv_if_ne (tgt := 38) hx hb dX7_wrongsOf_21 (by decide) (fun c_4 => ?_) (fun c_4 => ?_)
        · skip
          refine lv_iconst (v := 0) hx hb dX7_wrongsOf_38 (by decide) ?_
          refine lv_iadd hx hb dX7_wrongsOf_39 ?_
          refine ur_eq (y := v) (Int32.add_zero _) ?_
          refine lv_istore_n (lv' := [(2, .int v), (3, .int (nI i)), (0, .ref (E.2.1 251)), (1, .int (nI w))]) hx hb dX7_wrongsOf_40 rfl hl (by decide) rfl (fun ls hl => ?_)
          refine lv_iinc (v := nI (i + 1)) (lv' := [(3, .int (nI (i + 1))), (2, .int v), (0, .ref (E.2.1 251)), (1, .int (nI w))]) hx hb dX7_wrongsOf_41 hl (k := 1) rfl (nI_add i 1) (by decide) rfl (fun ls hl => ?_)
          refine lv_goto (tgt := 4) hx hb dX7_wrongsOf_44 (by decide) ?_
          exact ih4  (i + 1) v (by omega) (by omega) (by first | rfl | (simp [uSum, mFate, hv, c_1, c_4]; done)) _ _ _ h (lv_sub hl [0, 1, 2, 3] rfl)
        · skip
          refine lv_aload_n hx hb dX7_wrongsOf_24 rfl (lv_at hl 2 rfl) ?_
          refine lv_iload_n hx hb dX7_wrongsOf_25 rfl (lv_at hl 0 rfl) ?_
          refine lv_aload_n hx hb dX7_wrongsOf_26 rfl (lv_at hl 2 rfl) ?_
          refine lv_iload_n hx hb dX7_wrongsOf_27 rfl (lv_at hl 0 rfl) ?_
          refine lv_iload_n hx hb dX7_wrongsOf_28 rfl (lv_at hl 3 rfl) ?_
          refine ur_callVi C h (k := 251) (As := [.int (nI i), .int (nI w)]) (rest := [.int (nI i), .ref (E.2.1 251), .int v]) (k_X7_passNow l E hI M i w (by omega) (by omega) ht) (cwV 2 hts gX7_wrongsOf_X7_passNow rfl rfl rfl (by decide +kernel) ⟨Nat.le_of_ble_eq_true rfl, Nat.le_of_ble_eq_true rfl⟩) (by decide) (uc_251 E _) (T := TX7) (N := 17) rfl rfl hl.1 rfl (Nat.le_of_ble_eq_true rfl) dX7_wrongsOf_29 (fun r_5 M_6 H locs hw_6 h => ?_)
          obtain ⟨hu, er_5⟩ := hw_6
          subst hu
          refine ur_eq (y := mPassIn M i w (M.1 252 4)) er_5 ?_
          refine ur_callVi C h (k := 251) (As := [.int (nI i), .int (mPassIn M i w (M.1 252 4))]) (rest := [.int v]) (k_X7_wrong l E hI M i (mPassIn M i w (M.1 252 4)) (by omega)) (cwV 2 hts gX7_wrongsOf_X7_wrong rfl rfl rfl (by decide +kernel) ⟨Nat.le_of_ble_eq_true rfl, Nat.le_of_ble_eq_true rfl⟩) (by decide) (uc_251 E _) (T := TX7) (N := 17) rfl rfl hl.1 rfl (Nat.le_of_ble_eq_true rfl) dX7_wrongsOf_32 (fun r_7 M_8 H locs hw_8 h => ?_)
          obtain ⟨hu, er_7⟩ := hw_8
          subst hu
          refine ur_eq (y := mWrong M i (mPassIn M i w (M.1 252 4))) er_7 ?_
          refine lv_goto (tgt := 39) hx hb dX7_wrongsOf_35 (by decide) ?_
          refine lv_iadd hx hb dX7_wrongsOf_39 ?_
          refine lv_topi (fun v_9 ev_9 => ?_)
          refine lv_istore_n (lv' := [(2, .int v_9), (3, .int (nI i)), (0, .ref (E.2.1 251)), (1, .int (nI w))]) hx hb dX7_wrongsOf_40 rfl hl (by decide) rfl (fun ls hl => ?_)
          refine lv_iinc (v := nI (i + 1)) (lv' := [(3, .int (nI (i + 1))), (2, .int v_9), (0, .ref (E.2.1 251)), (1, .int (nI w))]) hx hb dX7_wrongsOf_41 hl (k := 1) rfl (nI_add i 1) (by decide) rfl (fun ls hl => ?_)
          refine lv_goto (tgt := 4) hx hb dX7_wrongsOf_44 (by decide) ?_
          exact ih4  (i + 1) v_9 (by omega) (by omega) (by first | rfl | (subst ev_9; simp [uSum, mFate, hv, c_1, c_4]; done)) _ _ _ h (lv_sub hl [0, 1, 2, 3] rfl)
  exact lp4 _ 0 0 (Nat.lt_succ_self _) (by omega) (by first | rfl | (simp [uSum, mFate, hv, ]; done)) _ _ _ h (lv_sub hl [0, 1, 2, 3] rfl)
set_option maxHeartbeats 4000000 in
set_option maxRecDepth 100000 in
theorem k_X7_wrongs (l : Launch) (E : uE) (hI : uI E) (M : uM) (x1 : Int32) (n : Nat) (hn : M.1 252 0 = nI n) (hn6 : n ≤ 6) (nw : Nat) (hnw : M.1 252 1 = nI nw) (hnw6 : nw ≤ 6) (ht : ¬ M.1 252 3 = 0) : Met l yX7_wrongs wsX7_wrongs ({ frames := 6, cells := 0, slots := 0, locals := 145 }) (va_Pc [.ref (E.2.1 251), .int x1] (uB E M)) (va_Qi (fun r u => M = u ∧ r = if 0 ≤ x1.toInt ∧ x1.toInt < nw then mWrongs M n (tn x1) else -1) (uP E) (uA E)) 0 0 (uA E) := by
  refine u_start (cc := cX7_wrongs) (maxL := 2) (ret := (some .int)) hI (by decide) rfl (Nat.le_of_ble_eq_true rfl) ?_
  intro p_ e_ s_ m_ bl_ me_ c_ C hr hlocks h ls hl
  have hx := C.1.1
  have hb := C.1.2.1
  have hown : s_.vm.findClass RX7 = some m_.cls := C.1.2.2.2.1
  have hts := C.1.2.2.2.2
  have hl : lv_has ls 2 [(0, .ref (E.2.1 251)), (1, .int x1)] := hl
  refine lv_aload_n hx hb dX7_wrongs_0 rfl (lv_at hl 0 rfl) ?_
  refine lv_iload_n hx hb dX7_wrongs_1 rfl (lv_at hl 1 rfl) ?_
  refine ur_callVi C h (k := 251) (As := [.int x1]) (rest := []) (k_X7_isWord l E hI M x1 nw hnw hnw6) (cwV 1 hts gX7_wrongs_X7_isWord rfl rfl rfl (by decide +kernel) ⟨Nat.le_of_ble_eq_true rfl, Nat.le_of_ble_eq_true rfl⟩) (by decide) (uc_251 E _) (T := TX7) (N := 17) rfl rfl hl.1 rfl (Nat.le_of_ble_eq_true rfl) dX7_wrongs_2 (fun r_1 M_2 H locs hw_2 h => ?_)
  obtain ⟨hu, er_1⟩ := hw_2
  subst hu
  refine lv_if_eq (tgt := 16) hx hb dX7_wrongs_5 (by decide) (fun c_3 => ?_) (fun c_3 => ?_)
  · skip
    have c_3 : ¬ (0 ≤ x1.toInt ∧ x1.toInt < nw) := uz_f er_1 c_3
    refine lv_iconst (v := (-1)) hx hb dX7_wrongs_16 (by decide) ?_
    exact ur_iret C h hr hlocks (⟨rfl, by rw [if_neg c_3]⟩) dX7_wrongs_17
  · skip
    have c_3 : 0 ≤ x1.toInt ∧ x1.toInt < nw := uz_t er_1 c_3
    obtain ⟨hnx1, enx1⟩ := u_tn c_3 (by omega)
    refine lv_aload_n hx hb dX7_wrongs_8 rfl (lv_at hl 0 rfl) ?_
    refine lv_iload_n hx hb dX7_wrongs_9 rfl (lv_at hl 1 rfl) ?_
    refine ur_eq (y := nI (tn x1)) enx1 ?_
    refine ur_callVi C h (k := 251) (As := [.int (nI (tn x1))]) (rest := []) (k_X7_wrongsOf l E hI M (tn x1) (by omega) n hn hn6 ht) (cwV 1 hts gX7_wrongs_X7_wrongsOf rfl rfl rfl (by decide +kernel) ⟨Nat.le_of_ble_eq_true rfl, Nat.le_of_ble_eq_true rfl⟩) (by decide) (uc_251 E _) (T := TX7) (N := 17) rfl rfl hl.1 rfl (Nat.le_of_ble_eq_true rfl) dX7_wrongs_10 (fun r_4 M_5 H locs hw_5 h => ?_)
    obtain ⟨hu, er_4⟩ := hw_5
    subst hu
    refine ur_eq (y := mWrongs M n (tn x1)) er_4 ?_
    refine lv_goto (tgt := 17) hx hb dX7_wrongs_13 (by decide) ?_
    exact ur_iret C h hr hlocks (⟨rfl, by rw [if_pos c_3]⟩) dX7_wrongs_17
