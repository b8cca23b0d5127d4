set_option maxHeartbeats 4000000 in
set_option maxRecDepth 100000 in
theorem k_X7_film (l : Launch) (E : uE) (hI : uI E) (M : uM) (x1 x2 x3 x4 x5 x6 : Int32) (n : Nat) (hn : M.1 252 0 = nI n) (hn6 : n ≤ 6) (nw : Nat) (hnw : M.1 252 1 = nI nw) (hnw6 : nw ≤ 6) (ht : ¬ M.1 252 3 = 0) (hsz : ∀ s, s < 4 → 0 ≤ (M.1 260 s).toInt ∧ (M.1 260 s).toInt ≤ 24) : Met l yX7_film wsX7_film ({ frames := 4, cells := 0, slots := 0, locals := 100 }) (va_Pc [.ref (E.2.1 251), .int x1, .int x2, .int x3, .int x4, .int x5, .int x6] (uB E M)) (va_Qi (fun r u => if (0 ≤ x1.toInt ∧ x1.toInt < n) ∧ (0 ≤ x2.toInt ∧ x2.toInt < nw) ∧ (1 ≤ x3.toInt ∧ x3.toInt ≤ 24) ∧ (0 ≤ x4.toInt ∧ x4.toInt ≤ 3) ∧ (0 ≤ x5.toInt ∧ x5.toInt ≤ 3) then (if 0 ≤ mWhyS M (tn x4) x5 x6 x3 then u = mFilm M (tn x1) (tn x2) (24 * tn x4 + tn x6) x5 (tn x3) ∧ r = x3 else r = mWhyS M (tn x4) x5 x6 x3 ∧ M = u) else r = -1 ∧ M = u) (uP E) (uA E)) 0 0 (uA E) := by
  have hin7 : ∀ w ∈ wsX70, w ∈ wsX7_film := by decide +kernel
  refine u_start (cc := cX7_film) (maxL := 9) (ret := (some .int)) hI (by decide) rfl (Nat.le_of_ble_eq_true rfl) ?_
  intro p_ e_ s_ m_ bl_ me_ c_ C hr hlocks h ls hl
  have hx := C.1.1
  have hb := C.1.2.1
  have hown : s_.vm.findClass RX7 = some m_.cls := C.1.2.2.2.1
  have hts := C.1.2.2.2.2
  have hl : lv_has ls 9 [(0, .ref (E.2.1 251)), (1, .int x1), (2, .int x2), (3, .int x3), (4, .int x4), (5, .int x5), (6, .int x6)] := hl
  refine lv_aload_n hx hb dX7_film_0 rfl (lv_at hl 0 rfl) ?_
  refine lv_iload_n hx hb dX7_film_1 rfl (lv_at hl 1 rfl) ?_
  refine ur_callVi C h (k := 251) (As := [.int x1]) (rest := []) (k_X7_isSpeaker l E hI M x1 n hn hn6) (cwV 1 hts gX7_film_X7_isSpeaker rfl rfl rfl (by decide +kernel) ⟨Nat.le_of_ble_eq_true rfl, Nat.le_of_ble_eq_true rfl⟩) (by decide) (uc_251 E _) (T := TX7) (N := 17) rfl rfl hl.1 rfl (Nat.le_of_ble_eq_true rfl) dX7_film_2 (fun r_1 M_2 H locs hw_2 h => ?_)
  obtain ⟨hu, er_1⟩ := hw_2
  subst hu
  refine lv_if_eq (tgt := 44) hx hb dX7_film_5 (by decide) (fun c_3 => ?_) (fun c_3 => ?_)
  · skip
    have c_3 : ¬ (0 ≤ x1.toInt ∧ x1.toInt < n) := uz_f er_1 c_3
    refine lv_iconst (v := (-1)) hx hb dX7_film_44 (by decide) ?_
    exact ur_iret C h hr hlocks (by rw [if_neg (by omega)]; exact ⟨rfl, rfl⟩) dX7_film_45
  · skip
    have c_3 : 0 ≤ x1.toInt ∧ x1.toInt < n := uz_t er_1 c_3
    refine lv_aload_n hx hb dX7_film_8 rfl (lv_at hl 0 rfl) ?_
    refine lv_iload_n hx hb dX7_film_9 rfl (lv_at hl 2 rfl) ?_
    refine ur_callVi C h (k := 251) (As := [.int x2]) (rest := []) (k_X7_isWord l E hI M x2 nw hnw hnw6) (cwV 1 hts gX7_film_X7_isWord rfl rfl rfl (by decide +kernel) ⟨Nat.le_of_ble_eq_true rfl, Nat.le_of_ble_eq_true rfl⟩) (by decide) (uc_251 E _) (T := TX7) (N := 17) rfl rfl hl.1 rfl (Nat.le_of_ble_eq_true rfl) dX7_film_10 (fun r_4 M_5 H locs hw_5 h => ?_)
    obtain ⟨hu, er_4⟩ := hw_5
    subst hu
    refine lv_if_eq (tgt := 44) hx hb dX7_film_13 (by decide) (fun c_6 => ?_) (fun c_6 => ?_)
    · skip
      have c_6 : ¬ (0 ≤ x2.toInt ∧ x2.toInt < nw) := uz_f er_4 c_6
      refine lv_iconst (v := (-1)) hx hb dX7_film_44 (by decide) ?_
      exact ur_iret C h hr hlocks (by rw [if_neg (by omega)]; exact ⟨rfl, rfl⟩) dX7_film_45
    · skip
      have c_6 : 0 ≤ x2.toInt ∧ x2.toInt < nw := uz_t er_4 c_6
      refine lv_iload_n hx hb dX7_film_16 rfl (lv_at hl 3 rfl) ?_
      refine lv_i2l (v := x3.toInt64) hx hb dX7_film_17 rfl ?_
      refine lv_lconst (v := 1) hx hb dX7_film_18 (by decide) ?_
      refine lv_ldc2 (v := 24) hx hb hown (hts (.constantLong RX7 96 24) (by decide +kernel)) dX7_film_19 ?_
      refine ur_callSi C h (As := [.long x3.toInt64, .long 1, .long 24]) (rest := []) (k_X7_in l E hI M x3.toInt64 1 24) (va_cwS 3 hts gX7_film_X7_in rfl rfl rfl (by decide +kernel) ⟨Nat.le_of_ble_eq_true rfl, Nat.le_of_ble_eq_true rfl⟩) rfl hl.1 rfl (Nat.le_of_ble_eq_true rfl) dX7_film_22 (fun r_7 M_8 H locs hw_8 h => ?_)
      obtain ⟨hu, er_7⟩ := hw_8
      subst hu
      have er_7 : r_7 = if 1 ≤ x3.toInt ∧ x3.toInt ≤ 24 then 1 else 0 := u_in (x := x3.toInt) (u_w _) rfl rfl er_7
      refine lv_if_eq (tgt := 44) hx hb dX7_film_25 (by decide) (fun c_9 => ?_) (fun c_9 => ?_)
      · skip
        have c_9 : ¬ (1 ≤ x3.toInt ∧ x3.toInt ≤ 24) := uz_f er_7 c_9
        refine lv_iconst (v := (-1)) hx hb dX7_film_44 (by decide) ?_
        exact ur_iret C h hr hlocks (by rw [if_neg (by omega)]; exact ⟨rfl, rfl⟩) dX7_film_45
      · skip
        have c_9 : 1 ≤ x3.toInt ∧ x3.toInt ≤ 24 := uz_t er_7 c_9
        refine lv_iload hx hb dX7_film_28 (lv_at hl 4 rfl) ?_
        refine ur_callSi C h (As := [.int x4]) (rest := []) (k_X7_isSheet l E hI M x4) (va_cwS 1 hts gX7_film_X7_isSheet rfl rfl rfl (by decide +kernel) ⟨Nat.le_of_ble_eq_true rfl, Nat.le_of_ble_eq_true rfl⟩) rfl hl.1 rfl (Nat.le_of_ble_eq_true rfl) dX7_film_30 (fun r_10 M_11 H locs hw_11 h => ?_)
        obtain ⟨hu, er_10⟩ := hw_11
        subst hu
        refine lv_if_eq (tgt := 44) hx hb dX7_film_33 (by decide) (fun c_12 => ?_) (fun c_12 => ?_)
        · skip
          have c_12 : ¬ (0 ≤ x4.toInt ∧ x4.toInt ≤ 3) := uz_f er_10 c_12
          refine lv_iconst (v := (-1)) hx hb dX7_film_44 (by decide) ?_
          exact ur_iret C h hr hlocks (by rw [if_neg (by omega)]; exact ⟨rfl, rfl⟩) dX7_film_45
        · skip
          have c_12 : 0 ≤ x4.toInt ∧ x4.toInt ≤ 3 := uz_t er_10 c_12
          refine lv_iload hx hb dX7_film_36 (lv_at hl 5 rfl) ?_
          refine ur_callSi C h (As := [.int x5]) (rest := []) (k_X7_isLane l E hI M x5) (va_cwS 1 hts gX7_film_X7_isLane rfl rfl rfl (by decide +kernel) ⟨Nat.le_of_ble_eq_true rfl, Nat.le_of_ble_eq_true rfl⟩) rfl hl.1 rfl (Nat.le_of_ble_eq_true rfl) dX7_film_38 (fun r_13 M_14 H locs hw_14 h => ?_)
          obtain ⟨hu, er_13⟩ := hw_14
          subst hu
          refine lv_if_ne (tgt := 46) hx hb dX7_film_41 (by decide) (fun c_15 => ?_) (fun c_15 => ?_)
          · skip
            have c_15 : 0 ≤ x5.toInt ∧ x5.toInt ≤ 3 := uz_t er_13 c_15
            obtain ⟨hnx1, enx1⟩ := u_tn c_3 (by omega)
            obtain ⟨hnx2, enx2⟩ := u_tn c_6 (by omega)
            obtain ⟨hnx4, enx4⟩ := u_tn (x := x4) (n := 4) ⟨by omega, by omega⟩ (by omega)
            refine lv_aload_n hx hb dX7_film_46 rfl (lv_at hl 0 rfl) ?_
            refine lv_iload hx hb dX7_film_47 (lv_at hl 4 rfl) ?_
            refine ur_eq (y := nI (tn x4)) enx4 ?_
            refine lv_iload hx hb dX7_film_49 (lv_at hl 5 rfl) ?_
            refine lv_iload hx hb dX7_film_51 (lv_at hl 6 rfl) ?_
            refine lv_iload_n hx hb dX7_film_53 rfl (lv_at hl 3 rfl) ?_
            refine ur_callVi C h (k := 251) (As := [.int (nI (tn x4)), .int x5, .int x6, .int x3]) (rest := []) (k_X7_why l E hI M (tn x4) x5 x6 x3 (by omega)) (cwV 4 hts gX7_film_X7_why rfl rfl rfl (by decide +kernel) ⟨Nat.le_of_ble_eq_true rfl, Nat.le_of_ble_eq_true rfl⟩) (by decide) (uc_251 E _) (T := TX7) (N := 17) rfl rfl hl.1 rfl (Nat.le_of_ble_eq_true rfl) dX7_film_54 (fun r_16 M_17 H locs hw_17 h => ?_)
            obtain ⟨hu, er_16⟩ := hw_17
            subst hu
            refine ur_eq (y := mWhyS M (tn x4) x5 x6 x3) er_16 ?_
            refine lv_istore (lv' := [(7, .int (mWhyS M (tn x4) x5 x6 x3)), (0, .ref (E.2.1 251)), (1, .int x1), (2, .int x2), (3, .int x3), (4, .int x4), (5, .int x5), (6, .int x6)]) hx hb dX7_film_57 hl (by decide) rfl (fun ls hl => ?_)
            refine lv_iload hx hb dX7_film_59 (lv_at hl 0 rfl) ?_
            refine lv_if_ge (tgt := 67) hx hb dX7_film_61 (by decide) (fun c_18 => ?_) (fun c_18 => ?_)
            · skip
              obtain ⟨hnx3, enx3⟩ := u_tn (x := x3) (n := 25) ⟨by omega, by omega⟩ (by omega)
              have hwy : 0 ≤ mWhyS M (tn x4) x5 x6 x3 := c_18
              obtain ⟨hy1, hy2, hy3, hy4, hy5⟩ := mWhyS_ok hwy
              have hy6 := hsz (tn x4) (by omega)
              obtain ⟨hnx6, enx6⟩ := u_tn (x := x6) (n := 25) ⟨by omega, by omega⟩ (by omega)
              have hx6 : (tn x6 : Int) = x6.toInt := by unfold tn; omega
              have hx3 : (tn x3 : Int) = x3.toInt := by unfold tn; omega
              refine lv_iconst (v := 0) hx hb dX7_film_67 (by decide) ?_
              refine lv_istore (lv' := [(8, .int 0), (7, .int (mWhyS M (tn x4) x5 x6 x3)), (0, .ref (E.2.1 251)), (1, .int x1), (2, .int x2), (3, .int x3), (4, .int x4), (5, .int x5), (6, .int x6)]) hx hb dX7_film_68 hl (by decide) rfl (fun ls hl => ?_)
              have lp70 : ∀ (n70 : Nat) (i : Nat) (Mi : uM), tn x3 - i < n70 → i ≤ tn x3 → Mi = mFilm M (tn x1) (tn x2) (24 * tn x4 + tn x6) x5 i → ∀ (H : Heap) (locs : List Loc) (ls : Array Slot), uH E Mi s_ H locs → lv_has ls 9 [(8, .int (nI i)), (7, .int (mWhyS M (tn x4) x5 x6 x3)), (0, .ref (E.2.1 251)), (1, .int x1), (2, .int x2), (3, .int x3), (4, .int x4), (5, .int x5), (6, .int x6)] → W p_ l e_ ({ frames := 4, cells := 0, slots := 0, locals := 100 }) s_ m_ (List.toArray [.ref (E.2.1 251), .int x1, .int x2, .int x3, .int x4, .int x5, .int x6]) bl_ me_ c_ H locs 0 0 (MQ bl_ (va_Qi (fun r u => if (0 ≤ x1.toInt ∧ x1.toInt < n) ∧ (0 ≤ x2.toInt ∧ x2.toInt < nw) ∧ (1 ≤ x3.toInt ∧ x3.toInt ≤ 24) ∧ (0 ≤ x4.toInt ∧ x4.toInt ≤ 3) ∧ (0 ≤ x5.toInt ∧ x5.toInt ≤ 3) then (if 0 ≤ mWhyS M (tn x4) x5 x6 x3 then u = mFilm M (tn x1) (tn x2) (24 * tn x4 + tn x6) x5 (tn x3) ∧ r = x3 else r = mWhyS M (tn x4) x5 x6 x3 ∧ M = u) else r = -1 ∧ M = u) (uP E) (uA E)) (List.toArray [.ref (E.2.1 251), .int x1, .int x2, .int x3, .int x4, .int x5, .int x6]) s_ 0 0 (uA E)) (F0 m_ 70 ls []) := by
                intro n70
                induction n70 with
                | zero => intro i Mi hms; exact absurd hms (Nat.not_lt_zero _)
                | succ n70 ih70 =>
                  intro i Mi hms70 hi hMi H locs ls h hl
                  refine lv_iload hx hb dX7_film_70 (lv_at hl 0 rfl) ?_
                  refine lv_iload_n hx hb dX7_film_72 rfl (lv_at hl 5 rfl) ?_
                  refine ur_eq (y := nI (tn x3)) enx3 ?_
                  refine lv_icmp_ge (tgt := 119) hx hb dX7_film_73 (by decide) (fun c_19 => ?_) (fun c_19 => ?_)
                  · skip
                    have c_19 : (tn x3) ≤ i := (nI_leI (a := (tn x3)) (b := i) (by omega) (by omega)).mp c_19
                    refine lv_iload_n hx hb dX7_film_119 rfl (lv_at hl 5 rfl) ?_
                    refine ur_eq (y := nI (tn x3)) enx3 ?_
                    exact ur_iret C h hr hlocks (by rw [if_pos (by omega), if_pos hwy]; exact ⟨by rw [hMi, show i = tn x3 by omega], enx3.symm⟩) dX7_film_120
                  · skip
                    have c_19 : ¬ (tn x3) ≤ i := fun z => c_19 ((nI_leI (a := (tn x3)) (b := i) (by omega) (by omega)).mpr z)
                    refine lv_aload_n hx hb dX7_film_76 rfl (lv_at hl 2 rfl) ?_
                    refine ur_get C h 251 (by decide) (uc_251 E _) (Cn := RX7) (T := TX7) (N := 17) rfl hin7 15 (by decide) (by decide +kernel) rfl dX7_film_77 ?_
                    refine lv_bipush (v := 24) hx hb dX7_film_80 (by decide) ?_
                    refine lv_iload hx hb dX7_film_82 (lv_at hl 6 rfl) ?_
                    refine ur_eq (y := nI (tn x4)) enx4 ?_
                    refine lv_imul hx hb dX7_film_84 ?_
                    refine ur_eq (y := nI (24 * (tn x4))) (pk_mul 24 (tn x4)) ?_
                    refine lv_iload hx hb dX7_film_85 (lv_at hl 8 rfl) ?_
                    refine ur_eq (y := nI (tn x6)) enx6 ?_
                    refine lv_iadd hx hb dX7_film_87 ?_
                    refine ur_eq (y := nI (24 * (tn x4) + tn x6)) (nI_add (24 * (tn x4)) (tn x6)) ?_
                    refine lv_iload hx hb dX7_film_88 (lv_at hl 0 rfl) ?_
                    refine lv_iadd hx hb dX7_film_90 ?_
                    refine ur_eq (y := nI (24 * (tn x4) + tn x6 + i)) (nI_add (24 * (tn x4) + tn x6) i) ?_
                    refine lv_iload hx hb dX7_film_91 (lv_at hl 7 rfl) ?_
                    have hM1 : Mi.1 = M.1 := by rw [hMi]; exact mFilm_1 _ _ _ _ _ _
                    refine lv_aload_n hx hb dX7_film_93 rfl (lv_at hl 2 rfl) ?_
                    refine lv_iload_n hx hb dX7_film_94 rfl (lv_at hl 3 rfl) ?_
                    refine ur_eq (y := nI (tn x1)) enx1 ?_
                    refine lv_iload_n hx hb dX7_film_95 rfl (lv_at hl 4 rfl) ?_
                    refine ur_eq (y := nI (tn x2)) enx2 ?_
                    refine lv_aload_n hx hb dX7_film_96 rfl (lv_at hl 2 rfl) ?_
                    refine ur_get C h 251 (by decide) (uc_251 E _) (Cn := RX7) (T := TX7) (N := 17) rfl hin7 0 (by decide) (by decide +kernel) rfl dX7_film_97 ?_
                    refine lv_iconst (v := 4) hx hb dX7_film_100 (by decide) ?_
                    refine ur_iald C h 252 (by decide) (uc_252 E _) (4) (by decide) (by decide) dX7_film_101 ?_
                    refine lv_iload hx hb dX7_film_102 (lv_at hl 0 rfl) ?_
                    refine lv_iadd hx hb dX7_film_104 ?_
                    refine ur_callVi C h (k := 251) (As := [.int (nI (tn x1)), .int (nI (tn x2)), .int ((Mi.1 252 4) + (nI i))]) (rest := [.int x5, .int (nI (24 * (tn x4) + tn x6 + i)), .ref (E.2.1 261)]) (k_X7_passIn l E hI Mi (tn x1) (tn x2) ((Mi.1 252 4) + (nI i)) (by omega) (by omega) (by rw [hM1]; exact ht)) (cwV 3 hts gX7_film_X7_passIn rfl rfl rfl (by decide +kernel) ⟨Nat.le_of_ble_eq_true rfl, Nat.le_of_ble_eq_true rfl⟩) (by decide) (uc_251 E _) (T := TX7) (N := 17) rfl rfl hl.1 rfl (Nat.le_of_ble_eq_true rfl) dX7_film_105 (fun r_20 M_21 H locs hw_21 h => ?_)
                    obtain ⟨hu, er_20⟩ := hw_21
                    subst hu
                    refine ur_eq (y := mPassIn Mi (tn x1) (tn x2) ((Mi.1 252 4) + (nI i))) er_20 ?_
                    refine lv_i2l (v := (mPassIn Mi (tn x1) (tn x2) ((Mi.1 252 4) + (nI i))).toInt64) hx hb dX7_film_108 rfl ?_
                    refine ur_callSl C h (As := [.int x5, .long ((mPassIn Mi (tn x1) (tn x2) ((Mi.1 252 4) + (nI i))).toInt64)]) (rest := [.int (nI (24 * (tn x4) + tn x6 + i)), .ref (E.2.1 261)]) (k_X7_cut l E hI Mi x5 ((mPassIn Mi (tn x1) (tn x2) ((Mi.1 252 4) + (nI i))).toInt64)) (va_cwS 2 hts gX7_film_X7_cut rfl rfl rfl (by decide +kernel) ⟨Nat.le_of_ble_eq_true rfl, Nat.le_of_ble_eq_true rfl⟩) rfl hl.1 rfl (Nat.le_of_ble_eq_true rfl) dX7_film_109 (fun r_22 M_23 H locs hw_23 h => ?_)
                    obtain ⟨hu, er_22⟩ := hw_23
                    subst hu
                    refine ur_eql (y := uCut x5 ((mPassIn Mi (tn x1) (tn x2) ((Mi.1 252 4) + (nI i))).toInt64)) er_22 ?_
                    refine ur_last C h 261 (by decide) (uc_261 E) (24 * (tn x4) + tn x6 + i) (by omega) (by decide) dX7_film_112 (fun M_24 H locs eM_24 h => ?_)
                    refine lv_iinc (v := nI (i + 1)) (lv' := [(8, .int (nI (i + 1))), (7, .int (mWhyS M (tn x4) x5 x6 x3)), (0, .ref (E.2.1 251)), (1, .int x1), (2, .int x2), (3, .int x3), (4, .int x4), (5, .int x5), (6, .int x6)]) hx hb dX7_film_113 hl (k := 0) rfl (nI_add i 1) (by decide) rfl (fun ls hl => ?_)
                    refine lv_goto (tgt := 70) hx hb dX7_film_116 (by decide) ?_
                    exact ih70  (i + 1) M_24 (by omega) (by omega) (by rw [eM_24, hMi]; rfl) _ _ _ h (lv_sub hl [0, 1, 2, 3, 4, 5, 6, 7, 8] rfl)
              exact lp70 _ 0 M (Nat.lt_succ_self _) (by omega) rfl _ _ _ h (lv_sub hl [0, 1, 2, 3, 4, 5, 6, 7, 8] rfl)
            · skip
              refine lv_iload hx hb dX7_film_64 (lv_at hl 0 rfl) ?_
              exact ur_iret C h hr hlocks (by rw [if_pos (by omega)]; rw [if_neg (by assumption)]; exact ⟨rfl, rfl⟩) dX7_film_66
          · skip
            have c_15 : ¬ (0 ≤ x5.toInt ∧ x5.toInt ≤ 3) := uz_f er_13 c_15
            refine lv_iconst (v := (-1)) hx hb dX7_film_44 (by decide) ?_
            exact ur_iret C h hr hlocks (by rw [if_neg (by omega)]; exact ⟨rfl, rfl⟩) dX7_film_45
set_option maxHeartbeats 4000000 in
set_option maxRecDepth 100000 in
theorem k_X7_sheet (l : Launch) (E : uE) (hI : uI E) (M : uM) (x1 x2 x3 : Int32) : Met l yX7_sheet wsX7_sheet ({ frames := 2, cells := 0, slots := 0, locals := 45 }) (va_Pc [.ref (E.2.1 251), .int x1, .int x2, .int x3] (uB E M)) (va_Qi (fun r u => if (0 ≤ x1.toInt ∧ x1.toInt ≤ 3) ∧ (0 ≤ x2.toInt ∧ x2.toInt ≤ 3) ∧ x3 ≤ 24 then (if 0 ≤ x3 then u = mSheet M (tn x1) x2 x3 ∧ r = x3 else r = -14 ∧ M = u) else r = -1 ∧ M = u) (uP E) (uA E)) 0 0 (uA E) := by
  have hin7 : ∀ w ∈ wsX70, w ∈ wsX7_sheet := by decide +kernel
  refine u_start (cc := cX7_sheet) (maxL := 5) (ret := (some .int)) hI (by decide) rfl (Nat.le_of_ble_eq_true rfl) ?_
  intro p_ e_ s_ m_ bl_ me_ c_ C hr hlocks h ls hl
  have hx := C.1.1
  have hb := C.1.2.1
  have hown : s_.vm.findClass RX7 = some m_.cls := C.1.2.2.2.1
  have hts := C.1.2.2.2.2
  have hl : lv_has ls 5 [(0, .ref (E.2.1 251)), (1, .int x1), (2, .int x2), (3, .int x3)] := hl
  refine lv_iload_n hx hb dX7_sheet_0 rfl (lv_at hl 1 rfl) ?_
  refine ur_callSi C h (As := [.int x1]) (rest := []) (k_X7_isSheet l E hI M x1) (va_cwS 1 hts gX7_sheet_X7_isSheet rfl rfl rfl (by decide +kernel) ⟨Nat.le_of_ble_eq_true rfl, Nat.le_of_ble_eq_true rfl⟩) rfl hl.1 rfl (Nat.le_of_ble_eq_true rfl) dX7_sheet_1 (fun r_1 M_2 H locs hw_2 h => ?_)
  obtain ⟨hu, er_1⟩ := hw_2
  subst hu
  refine lv_if_eq (tgt := 20) hx hb dX7_sheet_4 (by decide) (fun c_3 => ?_) (fun c_3 => ?_)
  · skip
    have c_3 : ¬ (0 ≤ x1.toInt ∧ x1.toInt ≤ 3) := uz_f er_1 c_3
    refine lv_iconst (v := (-1)) hx hb dX7_sheet_20 (by decide) ?_
    exact ur_iret C h hr hlocks (by rw [if_neg (fun z => by first | exact absurd z.1 (by assumption) | exact absurd z.2.1 (by assumption) | exact absurd z.2.2 (by assumption))]; exact ⟨rfl, rfl⟩) dX7_sheet_21
  · skip
    have c_3 : 0 ≤ x1.toInt ∧ x1.toInt ≤ 3 := uz_t er_1 c_3
    refine lv_iload_n hx hb dX7_sheet_7 rfl (lv_at hl 2 rfl) ?_
    refine ur_callSi C h (As := [.int x2]) (rest := []) (k_X7_isLane l E hI M x2) (va_cwS 1 hts gX7_sheet_X7_isLane rfl rfl rfl (by decide +kernel) ⟨Nat.le_of_ble_eq_true rfl, Nat.le_of_ble_eq_true rfl⟩) rfl hl.1 rfl (Nat.le_of_ble_eq_true rfl) dX7_sheet_8 (fun r_4 M_5 H locs hw_5 h => ?_)
    obtain ⟨hu, er_4⟩ := hw_5
    subst hu
    refine lv_if_eq (tgt := 20) hx hb dX7_sheet_11 (by decide) (fun c_6 => ?_) (fun c_6 => ?_)
    · skip
      have c_6 : ¬ (0 ≤ x2.toInt ∧ x2.toInt ≤ 3) := uz_f er_4 c_6
      refine lv_iconst (v := (-1)) hx hb dX7_sheet_20 (by decide) ?_
      exact ur_iret C h hr hlocks (by rw [if_neg (fun z => by first | exact absurd z.1 (by assumption) | exact absurd z.2.1 (by assumption) | exact absurd z.2.2 (by assumption))]; exact ⟨rfl, rfl⟩) dX7_sheet_21
    · skip
      have c_6 : 0 ≤ x2.toInt ∧ x2.toInt ≤ 3 := uz_t er_4 c_6
      refine lv_iload_n hx hb dX7_sheet_14 rfl (lv_at hl 3 rfl) ?_
      refine lv_bipush (v := 24) hx hb dX7_sheet_15 (by decide) ?_
      refine lv_icmp_le (tgt := 22) hx hb dX7_sheet_17 (by decide) (fun c_7 => ?_) (fun c_7 => ?_)
      · skip
        refine lv_iload_n hx hb dX7_sheet_22 rfl (lv_at hl 3 rfl) ?_
        refine lv_if_ge (tgt := 29) hx hb dX7_sheet_23 (by decide) (fun c_8 => ?_) (fun c_8 => ?_)
        · skip
          obtain ⟨hnx1, enx1⟩ := u_tn (x := x1) (n := 4) ⟨by omega, by omega⟩ (by omega)
          refine lv_aload_n hx hb dX7_sheet_29 rfl (lv_at hl 0 rfl) ?_
          refine ur_get C h 251 (by decide) (uc_251 E _) (Cn := RX7) (T := TX7) (N := 17) rfl hin7 13 (by decide) (by decide +kernel) rfl dX7_sheet_30 ?_
          refine lv_iload_n hx hb dX7_sheet_33 rfl (lv_at hl 1 rfl) ?_
          refine ur_eq (y := nI (tn x1)) enx1 ?_
          refine lv_iload_n hx hb dX7_sheet_34 rfl (lv_at hl 2 rfl) ?_
          refine ur_iast C h 259 (by decide) (uc_259 E) (tn x1) (by omega) (by decide) dX7_sheet_35 (fun M_9 H locs eM_9 h => ?_)
          refine lv_aload_n hx hb dX7_sheet_36 rfl (lv_at hl 0 rfl) ?_
          refine ur_get C h 251 (by decide) (uc_251 E _) (Cn := RX7) (T := TX7) (N := 17) rfl hin7 14 (by decide) (by decide +kernel) rfl dX7_sheet_37 ?_
          refine lv_iload_n hx hb dX7_sheet_40 rfl (lv_at hl 1 rfl) ?_
          refine ur_eq (y := nI (tn x1)) enx1 ?_
          refine lv_iload_n hx hb dX7_sheet_41 rfl (lv_at hl 3 rfl) ?_
          refine ur_iast C h 260 (by decide) (uc_260 E) (tn x1) (by omega) (by decide) dX7_sheet_42 (fun M_10 H locs eM_10 h => ?_)
          refine lv_iconst (v := 0) hx hb dX7_sheet_43 (by decide) ?_
          refine lv_istore (lv' := [(4, .int 0), (0, .ref (E.2.1 251)), (1, .int x1), (2, .int x2), (3, .int x3)]) hx hb dX7_sheet_44 hl (by decide) rfl (fun ls hl => ?_)
          have lp46 : ∀ (n46 : Nat) (i : Nat) (Mi : uM), 24 - i < n46 → i ≤ 24 → Mi = uFillL (uSet (uSet M 259 (tn x1) x2) 260 (tn x1) x3) 261 (24 * tn x1) 0 i → ∀ (H : Heap) (locs : List Loc) (ls : Array Slot), uH E Mi s_ H locs → lv_has ls 5 [(4, .int (nI i)), (0, .ref (E.2.1 251)), (1, .int x1), (2, .int x2), (3, .int x3)] → W p_ l e_ ({ frames := 2, cells := 0, slots := 0, locals := 45 }) s_ m_ (List.toArray [.ref (E.2.1 251), .int x1, .int x2, .int x3]) bl_ me_ c_ H locs 0 0 (MQ bl_ (va_Qi (fun r u => if (0 ≤ x1.toInt ∧ x1.toInt ≤ 3) ∧ (0 ≤ x2.toInt ∧ x2.toInt ≤ 3) ∧ x3 ≤ 24 then (if 0 ≤ x3 then u = mSheet M (tn x1) x2 x3 ∧ r = x3 else r = -14 ∧ M = u) else r = -1 ∧ M = u) (uP E) (uA E)) (List.toArray [.ref (E.2.1 251), .int x1, .int x2, .int x3]) s_ 0 0 (uA E)) (F0 m_ 46 ls []) := by
            intro n46
            induction n46 with
            | zero => intro i Mi hms; exact absurd hms (Nat.not_lt_zero _)
            | succ n46 ih46 =>
              intro i Mi hms46 hi hMi H locs ls h hl
              refine lv_iload hx hb dX7_sheet_46 (lv_at hl 0 rfl) ?_
              refine lv_bipush (v := 24) hx hb dX7_sheet_48 (by decide) ?_
              refine lv_icmp_ge (tgt := 72) hx hb dX7_sheet_50 (by decide) (fun c_11 => ?_) (fun c_11 => ?_)
              · skip
                have c_11 : 24 ≤ i := (nI_leI (a := 24) (b := i) (by omega) (by omega)).mp c_11
                refine lv_iload_n hx hb dX7_sheet_72 rfl (lv_at hl 4 rfl) ?_
                exact ur_iret C h hr hlocks (by rw [if_pos ⟨by assumption, by assumption, by assumption⟩, if_pos (by assumption)]; exact ⟨by rw [hMi, show i = 24 by omega]; rfl, rfl⟩) dX7_sheet_73
              · skip
                have c_11 : ¬ 24 ≤ i := fun z => c_11 ((nI_leI (a := 24) (b := i) (by omega) (by omega)).mpr z)
                refine lv_aload_n hx hb dX7_sheet_53 rfl (lv_at hl 1 rfl) ?_
                refine ur_get C h 251 (by decide) (uc_251 E _) (Cn := RX7) (T := TX7) (N := 17) rfl hin7 15 (by decide) (by decide +kernel) rfl dX7_sheet_54 ?_
                refine lv_bipush (v := 24) hx hb dX7_sheet_57 (by decide) ?_
                refine lv_iload_n hx hb dX7_sheet_59 rfl (lv_at hl 2 rfl) ?_
                refine ur_eq (y := nI (tn x1)) enx1 ?_
                refine lv_imul hx hb dX7_sheet_60 ?_
                refine ur_eq (y := nI (24 * (tn x1))) (pk_mul 24 (tn x1)) ?_
                refine lv_iload hx hb dX7_sheet_61 (lv_at hl 0 rfl) ?_
                refine lv_iadd hx hb dX7_sheet_63 ?_
                refine ur_eq (y := nI (24 * (tn x1) + i)) (nI_add (24 * (tn x1)) i) ?_
                refine lv_lconst (v := 0) hx hb dX7_sheet_64 (by decide) ?_
                refine ur_last C h 261 (by decide) (uc_261 E) (24 * (tn x1) + i) (by omega) (by decide) dX7_sheet_65 (fun M_12 H locs eM_12 h => ?_)
                refine lv_iinc (v := nI (i + 1)) (lv' := [(4, .int (nI (i + 1))), (0, .ref (E.2.1 251)), (1, .int x1), (2, .int x2), (3, .int x3)]) hx hb dX7_sheet_66 hl (k := 0) rfl (nI_add i 1) (by decide) rfl (fun ls hl => ?_)
                refine lv_goto (tgt := 46) hx hb dX7_sheet_69 (by decide) ?_
                exact ih46  (i + 1) M_12 (by omega) (by omega) (by rw [eM_12, hMi]; rfl) _ _ _ h (lv_sub hl [0, 1, 2, 3, 4] rfl)
          exact lp46 _ 0 M_10 (Nat.lt_succ_self _) (by omega) (by rw [eM_10, eM_9]; rfl) _ _ _ h (lv_sub hl [0, 1, 2, 3, 4] rfl)
        · skip
          refine lv_bipush (v := (-14)) hx hb dX7_sheet_26 (by decide) ?_
          exact ur_iret C h hr hlocks (by rw [if_pos ⟨by assumption, by assumption, by assumption⟩, if_neg (by assumption)]; exact ⟨rfl, rfl⟩) dX7_sheet_28
      · skip
        refine lv_iconst (v := (-1)) hx hb dX7_sheet_20 (by decide) ?_
        exact ur_iret C h hr hlocks (by rw [if_neg (fun z => by first | exact absurd z.1 (by assumption) | exact absurd z.2.1 (by assumption) | exact absurd z.2.2 (by assumption))]; exact ⟨rfl, rfl⟩) dX7_sheet_21
set_option maxHeartbeats 4000000 in
set_option maxRecDepth 100000 in
theorem k_X7_drop (l : Launch) (E : uE) (hI : uI E) (M : uM) (x1 : Int32) : Met l yX7_drop wsX7_drop ({ frames := 2, cells := 0, slots := 0, locals := 45 }) (va_Pc [.ref (E.2.1 251), .int x1] (uB E M)) (va_Qi (fun r u => if 0 ≤ x1.toInt ∧ x1.toInt ≤ 3 then (if 0 ≤ M.1 259 (tn x1) then u = uSet M 259 (tn x1) (-1) ∧ r = M.1 260 (tn x1) else r = -11 ∧ M = u) else r = -1 ∧ M = u) (uP E) (uA E)) 0 0 (uA E) := by
  have hin7 : ∀ w ∈ wsX70, w ∈ wsX7_drop := by decide +kernel
  refine u_start (cc := cX7_drop) (maxL := 2) (ret := (some .int)) hI (by decide) rfl (Nat.le_of_ble_eq_true rfl) ?_
  intro p_ e_ s_ m_ bl_ me_ c_ C hr hlocks h ls hl
  have hx := C.1.1
  have hb := C.1.2.1
  have hown : s_.vm.findClass RX7 = some m_.cls := C.1.2.2.2.1
  have hts := C.1.2.2.2.2
  have hl : lv_has ls 2 [(0, .ref (E.2.1 251)), (1, .int x1)] := hl
  refine lv_iload_n hx hb dX7_drop_0 rfl (lv_at hl 1 rfl) ?_
  refine ur_callSi C h (As := [.int x1]) (rest := []) (k_X7_isSheet l E hI M x1) (va_cwS 1 hts gX7_drop_X7_isSheet rfl rfl rfl (by decide +kernel) ⟨Nat.le_of_ble_eq_true rfl, Nat.le_of_ble_eq_true rfl⟩) rfl hl.1 rfl (Nat.le_of_ble_eq_true rfl) dX7_drop_1 (fun r_1 M_2 H locs hw_2 h => ?_)
  obtain ⟨hu, er_1⟩ := hw_2
  subst hu
  refine lv_if_ne (tgt := 9) hx hb dX7_drop_4 (by decide) (fun c_3 => ?_) (fun c_3 => ?_)
  · skip
    have c_3 : 0 ≤ x1.toInt ∧ x1.toInt ≤ 3 := uz_t er_1 c_3
    obtain ⟨hnx1, enx1⟩ := u_tn (x := x1) (n := 4) ⟨by omega, by omega⟩ (by omega)
    refine lv_aload_n hx hb dX7_drop_9 rfl (lv_at hl 0 rfl) ?_
    refine ur_get C h 251 (by decide) (uc_251 E _) (Cn := RX7) (T := TX7) (N := 17) rfl hin7 13 (by decide) (by decide +kernel) rfl dX7_drop_10 ?_
    refine lv_iload_n hx hb dX7_drop_13 rfl (lv_at hl 1 rfl) ?_
    refine ur_eq (y := nI (tn x1)) enx1 ?_
    refine ur_iald C h 259 (by decide) (uc_259 E _) (tn x1) (by omega) (by decide) dX7_drop_14 ?_
    refine lv_if_ge (tgt := 21) hx hb dX7_drop_15 (by decide) (fun c_4 => ?_) (fun c_4 => ?_)
    · skip
      refine lv_aload_n hx hb dX7_drop_21 rfl (lv_at hl 0 rfl) ?_
      refine ur_get C h 251 (by decide) (uc_251 E _) (Cn := RX7) (T := TX7) (N := 17) rfl hin7 13 (by decide) (by decide +kernel) rfl dX7_drop_22 ?_
      refine lv_iload_n hx hb dX7_drop_25 rfl (lv_at hl 1 rfl) ?_
      refine ur_eq (y := nI (tn x1)) enx1 ?_
      refine lv_iconst (v := (-1)) hx hb dX7_drop_26 (by decide) ?_
      refine ur_iast C h 259 (by decide) (uc_259 E) (tn x1) (by omega) (by decide) dX7_drop_27 (fun M_5 H locs eM_5 h => ?_)
      refine lv_aload_n hx hb dX7_drop_28 rfl (lv_at hl 0 rfl) ?_
      refine ur_get C h 251 (by decide) (uc_251 E _) (Cn := RX7) (T := TX7) (N := 17) rfl hin7 14 (by decide) (by decide +kernel) rfl dX7_drop_29 ?_
      refine lv_iload_n hx hb dX7_drop_32 rfl (lv_at hl 1 rfl) ?_
      refine ur_eq (y := nI (tn x1)) enx1 ?_
      refine ur_iald C h 260 (by decide) (uc_260 E _) (tn x1) (by omega) (by decide) dX7_drop_33 ?_
      exact ur_iret C h hr hlocks (by rw [if_pos (by omega), if_pos (by assumption)]; subst eM_5; exact ⟨rfl, rfl⟩) dX7_drop_34
    · skip
      refine lv_bipush (v := (-11)) hx hb dX7_drop_18 (by decide) ?_
      exact ur_iret C h hr hlocks (by rw [if_pos (by omega), if_neg (by assumption)]; exact ⟨rfl, rfl⟩) dX7_drop_20
  · skip
    have c_3 : ¬ (0 ≤ x1.toInt ∧ x1.toInt ≤ 3) := uz_f er_1 c_3
    refine lv_iconst (v := (-1)) hx hb dX7_drop_7 (by decide) ?_
    exact ur_iret C h hr hlocks (by rw [if_neg (by omega)]; exact ⟨rfl, rfl⟩) dX7_drop_8
set_option maxHeartbeats 4000000 in
set_option maxRecDepth 100000 in
theorem k_X7_item (l : Launch) (E : uE) (hI : uI E) (M : uM) (x1 x2 x3 : Int32) (x4 : Int64) (hsz : ∀ s, s < 4 → 0 ≤ (M.1 260 s).toInt ∧ (M.1 260 s).toInt ≤ 24) : Met l yX7_item wsX7_item ({ frames := 2, cells := 0, slots := 0, locals := 45 }) (va_Pc [.ref (E.2.1 251), .int x1, .int x2, .int x3, .long x4] (uB E M)) (va_Qi (fun r u => if (0 ≤ x1.toInt ∧ x1.toInt ≤ 3) ∧ (0 ≤ x2.toInt ∧ x2.toInt ≤ 3) then (if 0 ≤ mWhyS M (tn x1) x2 x3 1 then u = uSetL M 261 (24 * tn x1 + tn x3) (uCut x2 x4) ∧ r = 1 else r = mWhyS M (tn x1) x2 x3 1 ∧ M = u) else r = -1 ∧ M = u) (uP E) (uA E)) 0 0 (uA E) := by
  have hin7 : ∀ w ∈ wsX70, w ∈ wsX7_item := by decide +kernel
  refine u_start (cc := cX7_item) (maxL := 7) (ret := (some .int)) hI (by decide) rfl (Nat.le_of_ble_eq_true rfl) ?_
  intro p_ e_ s_ m_ bl_ me_ c_ C hr hlocks h ls hl
  have hx := C.1.1
  have hb := C.1.2.1
  have hown : s_.vm.findClass RX7 = some m_.cls := C.1.2.2.2.1
  have hts := C.1.2.2.2.2
  have hl : lv_has ls 7 [(0, .ref (E.2.1 251)), (1, .int x1), (2, .int x2), (3, .int x3), (4, .long x4)] := hl
  refine lv_iload_n hx hb dX7_item_0 rfl (lv_at hl 1 rfl) ?_
  refine ur_callSi C h (As := [.int x1]) (rest := []) (k_X7_isSheet l E hI M x1) (va_cwS 1 hts gX7_item_X7_isSheet rfl rfl rfl (by decide +kernel) ⟨Nat.le_of_ble_eq_true rfl, Nat.le_of_ble_eq_true rfl⟩) rfl hl.1 rfl (Nat.le_of_ble_eq_true rfl) dX7_item_1 (fun r_1 M_2 H locs hw_2 h => ?_)
  obtain ⟨hu, er_1⟩ := hw_2
  subst hu
  refine lv_if_eq (tgt := 14) hx hb dX7_item_4 (by decide) (fun c_3 => ?_) (fun c_3 => ?_)
  · skip
    have c_3 : ¬ (0 ≤ x1.toInt ∧ x1.toInt ≤ 3) := uz_f er_1 c_3
    refine lv_iconst (v := (-1)) hx hb dX7_item_14 (by decide) ?_
    exact ur_iret C h hr hlocks (by rw [if_neg (by omega)]; exact ⟨rfl, rfl⟩) dX7_item_15
  · skip
    have c_3 : 0 ≤ x1.toInt ∧ x1.toInt ≤ 3 := uz_t er_1 c_3
    refine lv_iload_n hx hb dX7_item_7 rfl (lv_at hl 2 rfl) ?_
    refine ur_callSi C h (As := [.int x2]) (rest := []) (k_X7_isLane l E hI M x2) (va_cwS 1 hts gX7_item_X7_isLane rfl rfl rfl (by decide +kernel) ⟨Nat.le_of_ble_eq_true rfl, Nat.le_of_ble_eq_true rfl⟩) rfl hl.1 rfl (Nat.le_of_ble_eq_true rfl) dX7_item_8 (fun r_4 M_5 H locs hw_5 h => ?_)
    obtain ⟨hu, er_4⟩ := hw_5
    subst hu
    refine lv_if_ne (tgt := 16) hx hb dX7_item_11 (by decide) (fun c_6 => ?_) (fun c_6 => ?_)
    · skip
      have c_6 : 0 ≤ x2.toInt ∧ x2.toInt ≤ 3 := uz_t er_4 c_6
      obtain ⟨hnx1, enx1⟩ := u_tn (x := x1) (n := 4) ⟨by omega, by omega⟩ (by omega)
      refine lv_aload_n hx hb dX7_item_16 rfl (lv_at hl 0 rfl) ?_
      refine lv_iload_n hx hb dX7_item_17 rfl (lv_at hl 1 rfl) ?_
      refine ur_eq (y := nI (tn x1)) enx1 ?_
      refine lv_iload_n hx hb dX7_item_18 rfl (lv_at hl 2 rfl) ?_
      refine lv_iload_n hx hb dX7_item_19 rfl (lv_at hl 3 rfl) ?_
      refine lv_iconst (v := 1) hx hb dX7_item_20 (by decide) ?_
      refine ur_callVi C h (k := 251) (As := [.int (nI (tn x1)), .int x2, .int x3, .int 1]) (rest := []) (k_X7_why l E hI M (tn x1) x2 x3 1 (by omega)) (cwV 4 hts gX7_item_X7_why rfl rfl rfl (by decide +kernel) ⟨Nat.le_of_ble_eq_true rfl, Nat.le_of_ble_eq_true rfl⟩) (by decide) (uc_251 E _) (T := TX7) (N := 17) rfl rfl hl.1 rfl (Nat.le_of_ble_eq_true rfl) dX7_item_21 (fun r_7 M_8 H locs hw_8 h => ?_)
      obtain ⟨hu, er_7⟩ := hw_8
      subst hu
      refine ur_eq (y := mWhyS M (tn x1) x2 x3 1) er_7 ?_
      refine lv_istore (lv' := [(6, .int (mWhyS M (tn x1) x2 x3 1)), (0, .ref (E.2.1 251)), (1, .int x1), (2, .int x2), (3, .int x3), (4, .long x4)]) hx hb dX7_item_24 hl (by decide) rfl (fun ls hl => ?_)
      refine lv_iload hx hb dX7_item_26 (lv_at hl 0 rfl) ?_
      refine lv_if_ge (tgt := 34) hx hb dX7_item_28 (by decide) (fun c_9 => ?_) (fun c_9 => ?_)
      · skip
        have hwy : 0 ≤ mWhyS M (tn x1) x2 x3 1 := c_9
        obtain ⟨hy1, hy2, hy3, hy4, hy5⟩ := mWhyS_ok hwy
        have hy6 := hsz (tn x1) (by omega)
        obtain ⟨hnx3, enx3⟩ := u_tn (x := x3) (n := 25) ⟨by omega, by omega⟩ (by omega)
        have hx3 : (tn x3 : Int) = x3.toInt := by unfold tn; omega
        have hone : (1 : Int32).toInt = 1 := rfl
        refine lv_aload_n hx hb dX7_item_34 rfl (lv_at hl 1 rfl) ?_
        refine ur_get C h 251 (by decide) (uc_251 E _) (Cn := RX7) (T := TX7) (N := 17) rfl hin7 15 (by decide) (by decide +kernel) rfl dX7_item_35 ?_
        refine lv_bipush (v := 24) hx hb dX7_item_38 (by decide) ?_
        refine lv_iload_n hx hb dX7_item_40 rfl (lv_at hl 2 rfl) ?_
        refine ur_eq (y := nI (tn x1)) enx1 ?_
        refine lv_imul hx hb dX7_item_41 ?_
        refine ur_eq (y := nI (24 * (tn x1))) (pk_mul 24 (tn x1)) ?_
        refine lv_iload_n hx hb dX7_item_42 rfl (lv_at hl 4 rfl) ?_
        refine ur_eq (y := nI (tn x3)) enx3 ?_
        refine lv_iadd hx hb dX7_item_43 ?_
        refine ur_eq (y := nI (24 * (tn x1) + tn x3)) (nI_add (24 * (tn x1)) (tn x3)) ?_
        refine lv_iload_n hx hb dX7_item_44 rfl (lv_at hl 3 rfl) ?_
        refine lv_lload hx hb dX7_item_45 (lv_at hl 5 rfl) ?_
        refine ur_callSl C h (As := [.int x2, .long x4]) (rest := [.int (nI (24 * (tn x1) + tn x3)), .ref (E.2.1 261)]) (k_X7_cut l E hI M x2 x4) (va_cwS 2 hts gX7_item_X7_cut rfl rfl rfl (by decide +kernel) ⟨Nat.le_of_ble_eq_true rfl, Nat.le_of_ble_eq_true rfl⟩) rfl hl.1 rfl (Nat.le_of_ble_eq_true rfl) dX7_item_47 (fun r_10 M_11 H locs hw_11 h => ?_)
        obtain ⟨hu, er_10⟩ := hw_11
        subst hu
        refine ur_eql (y := uCut x2 x4) er_10 ?_
        refine ur_last C h 261 (by decide) (uc_261 E) (24 * (tn x1) + tn x3) (by omega) (by decide) dX7_item_50 (fun M_12 H locs eM_12 h => ?_)
        refine lv_iconst (v := 1) hx hb dX7_item_51 (by decide) ?_
        exact ur_iret C h hr hlocks (by rw [if_pos (by omega), if_pos hwy]; subst eM_12; exact ⟨rfl, rfl⟩) dX7_item_52
      · skip
        refine lv_iload hx hb dX7_item_31 (lv_at hl 0 rfl) ?_
        exact ur_iret C h hr hlocks (by rw [if_pos (by omega)]; rw [if_neg (by assumption)]; exact ⟨rfl, rfl⟩) dX7_item_33
    · skip
      have c_6 : ¬ (0 ≤ x2.toInt ∧ x2.toInt ≤ 3) := uz_f er_4 c_6
      refine lv_iconst (v := (-1)) hx hb dX7_item_14 (by decide) ?_
      exact ur_iret C h hr hlocks (by rw [if_neg (by omega)]; exact ⟨rfl, rfl⟩) dX7_item_15
set_option maxHeartbeats 4000000 in
set_option maxRecDepth 100000 in
theorem k_X7_copy (l : Launch) (E : uE) (hI : uI E) (M : uM) (x1 x2 x3 x4 x5 : Int32) (hsz : ∀ s, s < 4 → 0 ≤ (M.1 260 s).toInt ∧ (M.1 260 s).toInt ≤ 24) : Met l yX7_copy wsX7_copy ({ frames := 2, cells := 0, slots := 0, locals := 45 }) (va_Pc [.ref (E.2.1 251), .int x1, .int x2, .int x3, .int x4, .int x5] (uB E M)) (va_Qi (fun r u => if (0 ≤ x1.toInt ∧ x1.toInt ≤ 3) ∧ (0 ≤ x3.toInt ∧ x3.toInt ≤ 3) then (if 0 ≤ M.1 259 (tn x1) ∧ 0 ≤ M.1 259 (tn x3) then (if mWhyS M (tn x3) (M.1 259 (tn x1)) x4 x5 = 0 ∧ 0 ≤ mWhyS M (tn x1) (M.1 259 (tn x1)) x2 x5 then u = mCopy M (tn x1) (tn x2) (tn x3) (tn x4) (tn x5) ∧ r = x5 else (if mWhyS M (tn x3) (M.1 259 (tn x1)) x4 x5 = 0 then r = mWhyS M (tn x1) (M.1 259 (tn x1)) x2 x5 ∧ M = u else r = mWhyS M (tn x3) (M.1 259 (tn x1)) x4 x5 ∧ M = u)) else r = -11 ∧ M = u) else r = -1 ∧ M = u) (uP E) (uA E)) 0 0 (uA E) := by
  have hin7 : ∀ w ∈ wsX70, w ∈ wsX7_copy := by decide +kernel
  refine u_start (cc := cX7_copy) (maxL := 8) (ret := (some .int)) hI (by decide) rfl (Nat.le_of_ble_eq_true rfl) ?_
  intro p_ e_ s_ m_ bl_ me_ c_ C hr hlocks h ls hl
  have hx := C.1.1
  have hb := C.1.2.1
  have hown : s_.vm.findClass RX7 = some m_.cls := C.1.2.2.2.1
  have hts := C.1.2.2.2.2
  have hl : lv_has ls 8 [(0, .ref (E.2.1 251)), (1, .int x1), (2, .int x2), (3, .int x3), (4, .int x4), (5, .int x5)] := hl
  refine lv_iload_n hx hb dX7_copy_0 rfl (lv_at hl 1 rfl) ?_
  refine ur_callSi C h (As := [.int x1]) (rest := []) (k_X7_isSheet l E hI M x1) (va_cwS 1 hts gX7_copy_X7_isSheet rfl rfl rfl (by decide +kernel) ⟨Nat.le_of_ble_eq_true rfl, Nat.le_of_ble_eq_true rfl⟩) rfl hl.1 rfl (Nat.le_of_ble_eq_true rfl) dX7_copy_1 (fun r_1 M_2 H locs hw_2 h => ?_)
  obtain ⟨hu, er_1⟩ := hw_2
  subst hu
  refine lv_if_eq (tgt := 14) hx hb dX7_copy_4 (by decide) (fun c_3 => ?_) (fun c_3 => ?_)
  · skip
    have c_3 : ¬ (0 ≤ x1.toInt ∧ x1.toInt ≤ 3) := uz_f er_1 c_3
    refine lv_iconst (v := (-1)) hx hb dX7_copy_14 (by decide) ?_
    exact ur_iret C h hr hlocks (by rw [if_neg (by omega)]; exact ⟨rfl, rfl⟩) dX7_copy_15
  · skip
    have c_3 : 0 ≤ x1.toInt ∧ x1.toInt ≤ 3 := uz_t er_1 c_3
    refine lv_iload_n hx hb dX7_copy_7 rfl (lv_at hl 3 rfl) ?_
    refine ur_callSi C h (As := [.int x3]) (rest := []) (k_X7_isSheet l E hI M x3) (va_cwS 1 hts gX7_copy_X7_isSheet rfl rfl rfl (by decide +kernel) ⟨Nat.le_of_ble_eq_true rfl, Nat.le_of_ble_eq_true rfl⟩) rfl hl.1 rfl (Nat.le_of_ble_eq_true rfl) dX7_copy_8 (fun r_4 M_5 H locs hw_5 h => ?_)
    obtain ⟨hu, er_4⟩ := hw_5
    subst hu
    refine lv_if_ne (tgt := 16) hx hb dX7_copy_11 (by decide) (fun c_6 => ?_) (fun c_6 => ?_)
    · skip
      have c_6 : 0 ≤ x3.toInt ∧ x3.toInt ≤ 3 := uz_t er_4 c_6
      obtain ⟨hnx1, enx1⟩ := u_tn (x := x1) (n := 4) ⟨by omega, by omega⟩ (by omega)
      obtain ⟨hnx3, enx3⟩ := u_tn (x := x3) (n := 4) ⟨by omega, by omega⟩ (by omega)
      refine lv_aload_n hx hb dX7_copy_16 rfl (lv_at hl 0 rfl) ?_
      refine ur_get C h 251 (by decide) (uc_251 E _) (Cn := RX7) (T := TX7) (N := 17) rfl hin7 13 (by decide) (by decide +kernel) rfl dX7_copy_17 ?_
      refine lv_iload_n hx hb dX7_copy_20 rfl (lv_at hl 1 rfl) ?_
      refine ur_eq (y := nI (tn x1)) enx1 ?_
      refine ur_iald C h 259 (by decide) (uc_259 E _) (tn x1) (by omega) (by decide) dX7_copy_21 ?_
      refine lv_if_lt (tgt := 34) hx hb dX7_copy_22 (by decide) (fun c_7 => ?_) (fun c_7 => ?_)
      · skip
        refine lv_bipush (v := (-11)) hx hb dX7_copy_34 (by decide) ?_
        exact ur_iret C h hr hlocks (by rw [if_pos (by omega), if_neg (fun z => by first | exact absurd z.1 (by assumption) | exact absurd z.2 (by assumption) | exact absurd z.1 (Int32.not_le.mpr (by assumption)))]; exact ⟨rfl, rfl⟩) dX7_copy_36
      · skip
        refine lv_aload_n hx hb dX7_copy_25 rfl (lv_at hl 0 rfl) ?_
        refine ur_get C h 251 (by decide) (uc_251 E _) (Cn := RX7) (T := TX7) (N := 17) rfl hin7 13 (by decide) (by decide +kernel) rfl dX7_copy_26 ?_
        refine lv_iload_n hx hb dX7_copy_29 rfl (lv_at hl 3 rfl) ?_
        refine ur_eq (y := nI (tn x3)) enx3 ?_
        refine ur_iald C h 259 (by decide) (uc_259 E _) (tn x3) (by omega) (by decide) dX7_copy_30 ?_
        refine lv_if_ge (tgt := 37) hx hb dX7_copy_31 (by decide) (fun c_8 => ?_) (fun c_8 => ?_)
        · skip
          refine lv_aload_n hx hb dX7_copy_37 rfl (lv_at hl 0 rfl) ?_
          refine lv_iload_n hx hb dX7_copy_38 rfl (lv_at hl 3 rfl) ?_
          refine ur_eq (y := nI (tn x3)) enx3 ?_
          refine lv_aload_n hx hb dX7_copy_39 rfl (lv_at hl 0 rfl) ?_
          refine ur_get C h 251 (by decide) (uc_251 E _) (Cn := RX7) (T := TX7) (N := 17) rfl hin7 13 (by decide) (by decide +kernel) rfl dX7_copy_40 ?_
          refine lv_iload_n hx hb dX7_copy_43 rfl (lv_at hl 1 rfl) ?_
          refine ur_eq (y := nI (tn x1)) enx1 ?_
          refine ur_iald C h 259 (by decide) (uc_259 E _) (tn x1) (by omega) (by decide) dX7_copy_44 ?_
          refine lv_iload hx hb dX7_copy_45 (lv_at hl 4 rfl) ?_
          refine lv_iload hx hb dX7_copy_47 (lv_at hl 5 rfl) ?_
          refine ur_callVi C h (k := 251) (As := [.int (nI (tn x3)), .int (M.1 259 (tn x1)), .int x4, .int x5]) (rest := []) (k_X7_why l E hI M (tn x3) (M.1 259 (tn x1)) x4 x5 (by omega)) (cwV 4 hts gX7_copy_X7_why rfl rfl rfl (by decide +kernel) ⟨Nat.le_of_ble_eq_true rfl, Nat.le_of_ble_eq_true rfl⟩) (by decide) (uc_251 E _) (T := TX7) (N := 17) rfl rfl hl.1 rfl (Nat.le_of_ble_eq_true rfl) dX7_copy_49 (fun r_9 M_10 H locs hw_10 h => ?_)
          obtain ⟨hu, er_9⟩ := hw_10
          subst hu
          refine ur_eq (y := mWhyS M (tn x3) (M.1 259 (tn x1)) x4 x5) er_9 ?_
          refine lv_topi (fun v_11 ev_11 => ?_)
          refine lv_istore (lv' := [(6, .int v_11), (0, .ref (E.2.1 251)), (1, .int x1), (2, .int x2), (3, .int x3), (4, .int x4), (5, .int x5)]) hx hb dX7_copy_52 hl (by decide) rfl (fun ls hl => ?_)
          refine lv_iload hx hb dX7_copy_54 (lv_at hl 0 rfl) ?_
          refine lv_if_ne (tgt := 76) hx hb dX7_copy_56 (by decide) (fun c_12 => ?_) (fun c_12 => ?_)
          · skip
            refine lv_iload hx hb dX7_copy_76 (lv_at hl 0 rfl) ?_
            refine lv_istore (lv' := [(6, .int v_11), (0, .ref (E.2.1 251)), (1, .int x1), (2, .int x2), (3, .int x3), (4, .int x4), (5, .int x5)]) hx hb dX7_copy_78 hl (by decide) rfl (fun ls hl => ?_)
            refine lv_iload hx hb dX7_copy_80 (lv_at hl 0 rfl) ?_
            refine lv_if_ge (tgt := 88) hx hb dX7_copy_82 (by decide) (fun c_13 => ?_) (fun c_13 => ?_)
            · skip
              exact absurd (mWhyS_z (ev_11 ▸ c_13)) (ev_11 ▸ c_12)
            · skip
              refine lv_iload hx hb dX7_copy_85 (lv_at hl 0 rfl) ?_
              exact ur_iret C h hr hlocks (by rw [if_pos (by omega), if_pos ⟨by first | assumption | exact Int32.not_lt.mp (by assumption), by assumption⟩]; subst ev_11; first | (rw [if_neg (fun z => by first | exact absurd z.1 (by assumption) | exact absurd z.2 (by assumption)), if_pos (by assumption)]; exact ⟨rfl, rfl⟩) | (rw [if_neg (fun z => by first | exact absurd z.1 (by assumption) | exact absurd z.2 (by assumption)), if_neg (by assumption)]; exact ⟨rfl, rfl⟩) | (exfalso; simp_all; done)) dX7_copy_87
          · skip
            refine lv_aload_n hx hb dX7_copy_59 rfl (lv_at hl 1 rfl) ?_
            refine lv_iload_n hx hb dX7_copy_60 rfl (lv_at hl 2 rfl) ?_
            refine ur_eq (y := nI (tn x1)) enx1 ?_
            refine lv_aload_n hx hb dX7_copy_61 rfl (lv_at hl 1 rfl) ?_
            refine ur_get C h 251 (by decide) (uc_251 E _) (Cn := RX7) (T := TX7) (N := 17) rfl hin7 13 (by decide) (by decide +kernel) rfl dX7_copy_62 ?_
            refine lv_iload_n hx hb dX7_copy_65 rfl (lv_at hl 2 rfl) ?_
            refine ur_eq (y := nI (tn x1)) enx1 ?_
            refine ur_iald C h 259 (by decide) (uc_259 E _) (tn x1) (by omega) (by decide) dX7_copy_66 ?_
            refine lv_iload_n hx hb dX7_copy_67 rfl (lv_at hl 3 rfl) ?_
            refine lv_iload hx hb dX7_copy_68 (lv_at hl 6 rfl) ?_
            refine ur_callVi C h (k := 251) (As := [.int (nI (tn x1)), .int (M.1 259 (tn x1)), .int x2, .int x5]) (rest := []) (k_X7_why l E hI M (tn x1) (M.1 259 (tn x1)) x2 x5 (by omega)) (cwV 4 hts gX7_copy_X7_why rfl rfl rfl (by decide +kernel) ⟨Nat.le_of_ble_eq_true rfl, Nat.le_of_ble_eq_true rfl⟩) (by decide) (uc_251 E _) (T := TX7) (N := 17) rfl rfl hl.1 rfl (Nat.le_of_ble_eq_true rfl) dX7_copy_70 (fun r_14 M_15 H locs hw_15 h => ?_)
            obtain ⟨hu, er_14⟩ := hw_15
            subst hu
            refine ur_eq (y := mWhyS M (tn x1) (M.1 259 (tn x1)) x2 x5) er_14 ?_
            refine lv_goto (tgt := 78) hx hb dX7_copy_73 (by decide) ?_
            refine lv_topi (fun v_16 ev_16 => ?_)
            refine lv_istore (lv' := [(6, .int v_16), (0, .ref (E.2.1 251)), (1, .int x1), (2, .int x2), (3, .int x3), (4, .int x4), (5, .int x5)]) hx hb dX7_copy_78 hl (by decide) rfl (fun ls hl => ?_)
            refine lv_iload hx hb dX7_copy_80 (lv_at hl 0 rfl) ?_
            refine lv_if_ge (tgt := 88) hx hb dX7_copy_82 (by decide) (fun c_17 => ?_) (fun c_17 => ?_)
            · skip
              have hwt : mWhyS M (tn x3) (M.1 259 (tn x1)) x4 x5 = 0 := by first | exact ev_11 ▸ c_12 | (subst ev_11; assumption)
              have hwf : 0 ≤ mWhyS M (tn x1) (M.1 259 (tn x1)) x2 x5 := ev_16 ▸ c_17
              obtain ⟨hy1, hy2, hy3, hy4, hy5⟩ := mWhyS_ok hwf
              obtain ⟨hz1, hz2, hz3, hz4, hz5⟩ := mWhyS_ok (show 0 ≤ mWhyS M (tn x3) (M.1 259 (tn x1)) x4 x5 by rw [hwt]; decide)
              have hy6 := hsz (tn x1) (by omega)
              have hz6 := hsz (tn x3) (by omega)
              obtain ⟨hnx2, enx2⟩ := u_tn (x := x2) (n := 25) ⟨by omega, by omega⟩ (by omega)
              have hx2 : (tn x2 : Int) = x2.toInt := by unfold tn; omega
              obtain ⟨hnx4, enx4⟩ := u_tn (x := x4) (n := 25) ⟨by omega, by omega⟩ (by omega)
              have hx4 : (tn x4 : Int) = x4.toInt := by unfold tn; omega
              obtain ⟨hnx5, enx5⟩ := u_tn (x := x5) (n := 25) ⟨by omega, by omega⟩ (by omega)
              have hx5 : (tn x5 : Int) = x5.toInt := by unfold tn; omega
              refine lv_iconst (v := 0) hx hb dX7_copy_88 (by decide) ?_
              refine lv_istore (lv' := [(7, .int 0), (6, .int v_16), (0, .ref (E.2.1 251)), (1, .int x1), (2, .int x2), (3, .int x3), (4, .int x4), (5, .int x5)]) hx hb dX7_copy_89 hl (by decide) rfl (fun ls hl => ?_)
              have lp91 : ∀ (n91 : Nat) (i : Nat) (Mi : uM), tn x5 - i < n91 → i ≤ tn x5 → Mi = uRowL M 262 (va_cpy (M.2.1 261) (M.2.1 262) (24 * tn x1 + tn x2) 0 i) → ∀ (H : Heap) (locs : List Loc) (ls : Array Slot), uH E Mi s_ H locs → lv_has ls 8 [(7, .int (nI i)), (6, .int v_16), (0, .ref (E.2.1 251)), (1, .int x1), (2, .int x2), (3, .int x3), (4, .int x4), (5, .int x5)] → W p_ l e_ ({ frames := 2, cells := 0, slots := 0, locals := 45 }) s_ m_ (List.toArray [.ref (E.2.1 251), .int x1, .int x2, .int x3, .int x4, .int x5]) bl_ me_ c_ H locs 0 0 (MQ bl_ (va_Qi (fun r u => if (0 ≤ x1.toInt ∧ x1.toInt ≤ 3) ∧ (0 ≤ x3.toInt ∧ x3.toInt ≤ 3) then (if 0 ≤ M.1 259 (tn x1) ∧ 0 ≤ M.1 259 (tn x3) then (if mWhyS M (tn x3) (M.1 259 (tn x1)) x4 x5 = 0 ∧ 0 ≤ mWhyS M (tn x1) (M.1 259 (tn x1)) x2 x5 then u = mCopy M (tn x1) (tn x2) (tn x3) (tn x4) (tn x5) ∧ r = x5 else (if mWhyS M (tn x3) (M.1 259 (tn x1)) x4 x5 = 0 then r = mWhyS M (tn x1) (M.1 259 (tn x1)) x2 x5 ∧ M = u else r = mWhyS M (tn x3) (M.1 259 (tn x1)) x4 x5 ∧ M = u)) else r = -11 ∧ M = u) else r = -1 ∧ M = u) (uP E) (uA E)) (List.toArray [.ref (E.2.1 251), .int x1, .int x2, .int x3, .int x4, .int x5]) s_ 0 0 (uA E)) (F0 m_ 91 ls []) := by
                intro n91
                induction n91 with
                | zero => intro i Mi hms; exact absurd hms (Nat.not_lt_zero _)
                | succ n91 ih91 =>
                  intro i Mi hms91 hi hMi H locs ls h hl
                  refine lv_iload hx hb dX7_copy_91 (lv_at hl 0 rfl) ?_
                  refine lv_iload hx hb dX7_copy_93 (lv_at hl 7 rfl) ?_
                  refine ur_eq (y := nI (tn x5)) enx5 ?_
                  refine lv_icmp_ge (tgt := 125) hx hb dX7_copy_95 (by decide) (fun c_18 => ?_) (fun c_18 => ?_)
                  · skip
                    have c_18 : (tn x5) ≤ i := (nI_leI (a := (tn x5)) (b := i) (by omega) (by omega)).mp c_18
                    refine lv_iconst (v := 0) hx hb dX7_copy_125 (by decide) ?_
                    refine lv_istore (lv' := [(7, .int 0), (6, .int v_16), (0, .ref (E.2.1 251)), (1, .int x1), (2, .int x2), (3, .int x3), (4, .int x4), (5, .int x5)]) hx hb dX7_copy_126 hl (by decide) rfl (fun ls hl => ?_)
                    have lp128 : ∀ (n128 : Nat) (i2 : Nat) (Mi2 : uM), tn x5 - i2 < n128 → i2 ≤ tn x5 → Mi2 = uRowL Mi 261 (va_cpy (Mi.2.1 262) (Mi.2.1 261) 0 (24 * tn x3 + tn x4) i2) → ∀ (H : Heap) (locs : List Loc) (ls : Array Slot), uH E Mi2 s_ H locs → lv_has ls 8 [(7, .int (nI i2)), (6, .int v_16), (0, .ref (E.2.1 251)), (1, .int x1), (2, .int x2), (3, .int x3), (4, .int x4), (5, .int x5)] → W p_ l e_ ({ frames := 2, cells := 0, slots := 0, locals := 45 }) s_ m_ (List.toArray [.ref (E.2.1 251), .int x1, .int x2, .int x3, .int x4, .int x5]) bl_ me_ c_ H locs 0 0 (MQ bl_ (va_Qi (fun r u => if (0 ≤ x1.toInt ∧ x1.toInt ≤ 3) ∧ (0 ≤ x3.toInt ∧ x3.toInt ≤ 3) then (if 0 ≤ M.1 259 (tn x1) ∧ 0 ≤ M.1 259 (tn x3) then (if mWhyS M (tn x3) (M.1 259 (tn x1)) x4 x5 = 0 ∧ 0 ≤ mWhyS M (tn x1) (M.1 259 (tn x1)) x2 x5 then u = mCopy M (tn x1) (tn x2) (tn x3) (tn x4) (tn x5) ∧ r = x5 else (if mWhyS M (tn x3) (M.1 259 (tn x1)) x4 x5 = 0 then r = mWhyS M (tn x1) (M.1 259 (tn x1)) x2 x5 ∧ M = u else r = mWhyS M (tn x3) (M.1 259 (tn x1)) x4 x5 ∧ M = u)) else r = -11 ∧ M = u) else r = -1 ∧ M = u) (uP E) (uA E)) (List.toArray [.ref (E.2.1 251), .int x1, .int x2, .int x3, .int x4, .int x5]) s_ 0 0 (uA E)) (F0 m_ 128 ls []) := by
                      intro n128
                      induction n128 with
                      | zero => intro i2 Mi2 hms; exact absurd hms (Nat.not_lt_zero _)
                      | succ n128 ih128 =>
                        intro i2 Mi2 hms128 hi2 hMi2 H locs ls h hl
                        refine lv_iload hx hb dX7_copy_128 (lv_at hl 0 rfl) ?_
                        refine lv_iload hx hb dX7_copy_130 (lv_at hl 7 rfl) ?_
                        refine ur_eq (y := nI (tn x5)) enx5 ?_
                        refine lv_icmp_ge (tgt := 163) hx hb dX7_copy_132 (by decide) (fun c_19 => ?_) (fun c_19 => ?_)
                        · skip
                          have c_19 : (tn x5) ≤ i2 := (nI_leI (a := (tn x5)) (b := i2) (by omega) (by omega)).mp c_19
                          refine lv_iload hx hb dX7_copy_163 (lv_at hl 7 rfl) ?_
                          refine ur_eq (y := nI (tn x5)) enx5 ?_
                          exact ur_iret C h hr hlocks (by rw [if_pos (by omega), if_pos ⟨by first | assumption | exact Int32.not_lt.mp (by assumption), by assumption⟩, if_pos ⟨hwt, hwf⟩]; exact ⟨by rw [hMi2, show i2 = tn x5 by omega, hMi, show i = tn x5 by omega]; rfl, enx5.symm⟩) dX7_copy_165
                        · skip
                          have c_19 : ¬ (tn x5) ≤ i2 := fun z => c_19 ((nI_leI (a := (tn x5)) (b := i2) (by omega) (by omega)).mpr z)
                          refine lv_aload_n hx hb dX7_copy_135 rfl (lv_at hl 2 rfl) ?_
                          refine ur_get C h 251 (by decide) (uc_251 E _) (Cn := RX7) (T := TX7) (N := 17) rfl hin7 15 (by decide) (by decide +kernel) rfl dX7_copy_136 ?_
                          refine lv_bipush (v := 24) hx hb dX7_copy_139 (by decide) ?_
                          refine lv_iload_n hx hb dX7_copy_141 rfl (lv_at hl 5 rfl) ?_
                          refine ur_eq (y := nI (tn x3)) enx3 ?_
                          refine lv_imul hx hb dX7_copy_142 ?_
                          refine ur_eq (y := nI (24 * (tn x3))) (pk_mul 24 (tn x3)) ?_
                          refine lv_iload hx hb dX7_copy_143 (lv_at hl 6 rfl) ?_
                          refine ur_eq (y := nI (tn x4)) enx4 ?_
                          refine lv_iadd hx hb dX7_copy_145 ?_
                          refine ur_eq (y := nI (24 * (tn x3) + tn x4)) (nI_add (24 * (tn x3)) (tn x4)) ?_
                          refine lv_iload hx hb dX7_copy_146 (lv_at hl 0 rfl) ?_
                          refine lv_iadd hx hb dX7_copy_148 ?_
                          refine ur_eq (y := nI (24 * (tn x3) + tn x4 + i2)) (nI_add (24 * (tn x3) + tn x4) i2) ?_
                          refine lv_aload_n hx hb dX7_copy_149 rfl (lv_at hl 2 rfl) ?_
                          refine ur_get C h 251 (by decide) (uc_251 E _) (Cn := RX7) (T := TX7) (N := 17) rfl hin7 16 (by decide) (by decide +kernel) rfl dX7_copy_150 ?_
                          refine lv_iload hx hb dX7_copy_153 (lv_at hl 0 rfl) ?_
                          refine ur_lald C h 262 (by decide) (uc_262 E _) (i2) (by omega) (by decide) dX7_copy_155 ?_
                          refine ur_last C h 261 (by decide) (uc_261 E) (24 * (tn x3) + tn x4 + i2) (by omega) (by decide) dX7_copy_156 (fun M_20 H locs eM_20 h => ?_)
                          refine lv_iinc (v := nI (i2 + 1)) (lv' := [(7, .int (nI (i2 + 1))), (6, .int v_16), (0, .ref (E.2.1 251)), (1, .int x1), (2, .int x2), (3, .int x3), (4, .int x4), (5, .int x5)]) hx hb dX7_copy_157 hl (k := 0) rfl (nI_add i2 1) (by decide) rfl (fun ls hl => ?_)
                          refine lv_goto (tgt := 128) hx hb dX7_copy_160 (by decide) ?_
                          exact ih128  (i2 + 1) M_20 (by omega) (by omega) (by rw [eM_20, hMi2]; exact u_cpSL (by omega) (by rw [u_row1L, if_neg (by decide)]; try exact congrArg _ (by omega))) _ _ _ h (lv_sub hl [0, 1, 2, 3, 4, 5, 6, 7] rfl)
                    exact lp128 _ 0 Mi (Nat.lt_succ_self _) (by omega) u_cp0L _ _ _ h (lv_sub hl [0, 1, 2, 3, 4, 5, 6, 7] rfl)
                  · skip
                    have c_18 : ¬ (tn x5) ≤ i := fun z => c_18 ((nI_leI (a := (tn x5)) (b := i) (by omega) (by omega)).mpr z)
                    refine lv_aload_n hx hb dX7_copy_98 rfl (lv_at hl 2 rfl) ?_
                    refine ur_get C h 251 (by decide) (uc_251 E _) (Cn := RX7) (T := TX7) (N := 17) rfl hin7 16 (by decide) (by decide +kernel) rfl dX7_copy_99 ?_
                    refine lv_iload hx hb dX7_copy_102 (lv_at hl 0 rfl) ?_
                    refine lv_aload_n hx hb dX7_copy_104 rfl (lv_at hl 2 rfl) ?_
                    refine ur_get C h 251 (by decide) (uc_251 E _) (Cn := RX7) (T := TX7) (N := 17) rfl hin7 15 (by decide) (by decide +kernel) rfl dX7_copy_105 ?_
                    refine lv_bipush (v := 24) hx hb dX7_copy_108 (by decide) ?_
                    refine lv_iload_n hx hb dX7_copy_110 rfl (lv_at hl 3 rfl) ?_
                    refine ur_eq (y := nI (tn x1)) enx1 ?_
                    refine lv_imul hx hb dX7_copy_111 ?_
                    refine ur_eq (y := nI (24 * (tn x1))) (pk_mul 24 (tn x1)) ?_
                    refine lv_iload_n hx hb dX7_copy_112 rfl (lv_at hl 4 rfl) ?_
                    refine ur_eq (y := nI (tn x2)) enx2 ?_
                    refine lv_iadd hx hb dX7_copy_113 ?_
                    refine ur_eq (y := nI (24 * (tn x1) + tn x2)) (nI_add (24 * (tn x1)) (tn x2)) ?_
                    refine lv_iload hx hb dX7_copy_114 (lv_at hl 0 rfl) ?_
                    refine lv_iadd hx hb dX7_copy_116 ?_
                    refine ur_eq (y := nI (24 * (tn x1) + tn x2 + i)) (nI_add (24 * (tn x1) + tn x2) i) ?_
                    refine ur_lald C h 261 (by decide) (uc_261 E _) (24 * (tn x1) + tn x2 + i) (by omega) (by decide) dX7_copy_117 ?_
                    refine ur_last C h 262 (by decide) (uc_262 E) (i) (by omega) (by decide) dX7_copy_118 (fun M_21 H locs eM_21 h => ?_)
                    refine lv_iinc (v := nI (i + 1)) (lv' := [(7, .int (nI (i + 1))), (6, .int v_16), (0, .ref (E.2.1 251)), (1, .int x1), (2, .int x2), (3, .int x3), (4, .int x4), (5, .int x5)]) hx hb dX7_copy_119 hl (k := 0) rfl (nI_add i 1) (by decide) rfl (fun ls hl => ?_)
                    refine lv_goto (tgt := 91) hx hb dX7_copy_122 (by decide) ?_
                    exact ih91  (i + 1) M_21 (by omega) (by omega) (by rw [eM_21, hMi]; exact u_cpSL (by omega) (by rw [u_row1L, if_neg (by decide)]; try exact congrArg _ (by omega))) _ _ _ h (lv_sub hl [0, 1, 2, 3, 4, 5, 6, 7] rfl)
              exact lp91 _ 0 M (Nat.lt_succ_self _) (by omega) u_cp0L _ _ _ h (lv_sub hl [0, 1, 2, 3, 4, 5, 6, 7] rfl)
            · skip
              refine lv_iload hx hb dX7_copy_85 (lv_at hl 0 rfl) ?_
              exact ur_iret C h hr hlocks (by rw [if_pos (by omega), if_pos ⟨by first | assumption | exact Int32.not_lt.mp (by assumption), by assumption⟩]; subst ev_11; subst ev_16; first | (rw [if_neg (fun z => by first | exact absurd z.1 (by assumption) | exact absurd z.2 (by assumption)), if_pos (by assumption)]; exact ⟨rfl, rfl⟩) | (rw [if_neg (fun z => by first | exact absurd z.1 (by assumption) | exact absurd z.2 (by assumption)), if_neg (by assumption)]; exact ⟨rfl, rfl⟩) | (exfalso; simp_all; done)) dX7_copy_87
        · skip
          refine lv_bipush (v := (-11)) hx hb dX7_copy_34 (by decide) ?_
          exact ur_iret C h hr hlocks (by rw [if_pos (by omega), if_neg (fun z => by first | exact absurd z.1 (by assumption) | exact absurd z.2 (by assumption) | exact absurd z.1 (Int32.not_le.mpr (by assumption)))]; exact ⟨rfl, rfl⟩) dX7_copy_36
    · skip
      have c_6 : ¬ (0 ≤ x3.toInt ∧ x3.toInt ≤ 3) := uz_f er_4 c_6
      refine lv_iconst (v := (-1)) hx hb dX7_copy_14 (by decide) ?_
      exact ur_iret C h hr hlocks (by rw [if_neg (by omega)]; exact ⟨rfl, rfl⟩) dX7_copy_15
