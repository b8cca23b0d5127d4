set_option maxHeartbeats 4000000 in
set_option maxRecDepth 100000 in
theorem k_X7_many (l : Launch) (E : uE) (hI : uI E) (M : uM) (s : Nat) (hs : s < 64) : Met l yX7_many wsX7_many ({ frames := 0, cells := 0, slots := 0, locals := 0 }) (va_Pc [.int (nI s)] (uB E M)) (va_Qi (fun r u => M = u ∧ r = nI (pop s)) (uP E) (uA E)) 0 0 (uA E) := by
  refine u_start (cc := cX7_many) (maxL := 3) (ret := (some .int)) hI (by decide) rfl (Nat.le_of_ble_eq_true rfl) ?_
  intro p_ e_ s_ m_ bl_ me_ c_ C hr hlocks h ls hl
  have hx := C.1.1
  have hb := C.1.2.1
  have hown : s_.vm.findClass RX7 = some m_.cls := C.1.2.2.2.1
  have hts := C.1.2.2.2.2
  have hl : lv_has ls 3 [(0, .int (nI s))] := hl
  refine lv_iconst (v := 0) hx hb dX7_many_0 (by decide) ?_
  refine lv_istore_n (lv' := [(1, .int 0), (0, .int (nI s))]) hx hb dX7_many_1 rfl hl (by decide) rfl (fun ls hl => ?_)
  refine lv_iload_n hx hb dX7_many_2 rfl (lv_at hl 1 rfl) ?_
  refine lv_istore_n (lv' := [(2, .int (nI s)), (1, .int 0), (0, .int (nI s))]) hx hb dX7_many_3 rfl hl (by decide) rfl (fun ls hl => ?_)
  have lp4 : ∀ (n4 : Nat) (cn lf : Nat), lf < n4 → lf < 64 → cn + pop lf = pop s → cn ≤ 6 → ∀ (H : Heap) (locs : List Loc) (ls : Array Slot), uH E M s_ H locs → lv_has ls 3 [(2, .int (nI lf)), (1, .int (nI cn)), (0, .int (nI s))] → W p_ l e_ ({ frames := 0, cells := 0, slots := 0, locals := 0 }) s_ m_ (List.toArray [.int (nI s)]) bl_ me_ c_ H locs 0 0 (MQ bl_ (va_Qi (fun r u => M = u ∧ r = nI (pop s)) (uP E) (uA E)) (List.toArray [.int (nI s)]) s_ 0 0 (uA E)) (F0 m_ 4 ls []) := by
    intro n4
    induction n4 with
    | zero => intro cn lf hms; exact absurd hms (Nat.not_lt_zero _)
    | succ n4 ih4 =>
      intro cn lf hms4 hl6 hc hc6 H locs ls h hl
      refine lv_iload_n hx hb dX7_many_4 rfl (lv_at hl 0 rfl) ?_
      refine lv_if_eq (tgt := 20) hx hb dX7_many_5 (by decide) (fun c_1 => ?_) (fun c_1 => ?_)
      · skip
        have c_1 : lf = 0 := (nI_eq (a := lf) (b := 0) (by omega) (by omega)).mp c_1
        refine lv_iload_n hx hb dX7_many_20 rfl (lv_at hl 1 rfl) ?_
        exact ur_iret C h hr hlocks (⟨rfl, by rw [← hc, show lf = 0 by omega]; rfl⟩) dX7_many_21
      · skip
        have c_1 : ¬ lf = 0 := fun z => c_1 ((nI_eq (a := lf) (b := 0) (by omega) (by omega)).mpr z)
        refine lv_iinc (v := nI (cn + 1)) (lv' := [(1, .int (nI (cn + 1))), (2, .int (nI lf)), (0, .int (nI s))]) hx hb dX7_many_8 hl (k := 1) rfl (nI_add cn 1) (by decide) rfl (fun ls hl => ?_)
        refine lv_iload_n hx hb dX7_many_11 rfl (lv_at hl 1 rfl) ?_
        refine lv_iload_n hx hb dX7_many_12 rfl (lv_at hl 1 rfl) ?_
        refine lv_iconst (v := 1) hx hb dX7_many_13 (by decide) ?_
        refine lv_isub hx hb dX7_many_14 ?_
        refine lv_iand hx hb dX7_many_15 ?_
        obtain ⟨hq1, hq2, hq3⟩ := pop_st hl6 c_1
        refine ur_eq (y := nI (lf &&& (lf - 1))) hq1 ?_
        refine lv_istore_n (lv' := [(2, .int (nI (lf &&& (lf - 1)))), (1, .int (nI (cn + 1))), (0, .int (nI s))]) hx hb dX7_many_16 rfl hl (by decide) rfl (fun ls hl => ?_)
        refine lv_goto (tgt := 4) hx hb dX7_many_17 (by decide) ?_
        exact ih4  (cn + 1) (lf &&& (lf - 1)) (by omega) (by omega) (by first | omega | exact Nat.zero_add _) (by have := pop6 hs; omega) _ _ _ h (lv_sub hl [0, 1, 2] rfl)
  exact lp4 _ 0 s (Nat.lt_succ_self _) (by omega) (by first | omega | exact Nat.zero_add _) (by have := pop6 hs; omega) _ _ _ h (lv_sub hl [0, 1, 2] rfl)
set_option maxHeartbeats 4000000 in
set_option maxRecDepth 100000 in
theorem k_X7_parting (l : Launch) (E : uE) (hI : uI E) (M : uM) (x1 : Int32) (n : Nat) (hn : M.1 252 0 = nI n) (hn6 : n ≤ 6) (nw : Nat) (hnw : M.1 252 1 = nI nw) (hnw6 : nw ≤ 6) (ht : ¬ M.1 252 3 = 0) : Met l yX7_parting wsX7_parting ({ frames := 6, cells := 0, slots := 0, locals := 145 }) (va_Pc [.ref (E.2.1 251), .int x1] (uB E M)) (va_Qi (fun r u => M = u ∧ r = if 0 ≤ x1.toInt ∧ x1.toInt ≤ 1 then (if x1 = 0 then (uPart (mWrongs M n) nw).1 else (uPart (mWrongs M n) nw).2) else -1) (uP E) (uA E)) 0 0 (uA E) := by
  have hin7 : ∀ w ∈ wsX70, w ∈ wsX7_parting := by decide +kernel
  refine u_start (cc := cX7_parting) (maxL := 7) (ret := (some .int)) hI (by decide) rfl (Nat.le_of_ble_eq_true rfl) ?_
  intro p_ e_ s_ m_ bl_ me_ c_ C hr hlocks h ls hl
  have hx := C.1.1
  have hb := C.1.2.1
  have hown : s_.vm.findClass RX7 = some m_.cls := C.1.2.2.2.1
  have hts := C.1.2.2.2.2
  have hl : lv_has ls 7 [(0, .ref (E.2.1 251)), (1, .int x1)] := hl
  refine lv_iload_n hx hb dX7_parting_0 rfl (lv_at hl 1 rfl) ?_
  refine lv_i2l (v := x1.toInt64) hx hb dX7_parting_1 rfl ?_
  refine lv_lconst (v := 0) hx hb dX7_parting_2 (by decide) ?_
  refine lv_lconst (v := 1) hx hb dX7_parting_3 (by decide) ?_
  refine ur_callSi C h (As := [.long x1.toInt64, .long 0, .long 1]) (rest := []) (k_X7_in l E hI M x1.toInt64 0 1) (va_cwS 3 hts gX7_parting_X7_in rfl rfl rfl (by decide +kernel) ⟨Nat.le_of_ble_eq_true rfl, Nat.le_of_ble_eq_true rfl⟩) rfl hl.1 rfl (Nat.le_of_ble_eq_true rfl) dX7_parting_4 (fun r_1 M_2 H locs hw_2 h => ?_)
  obtain ⟨hu, er_1⟩ := hw_2
  subst hu
  have er_1 : r_1 = if 0 ≤ x1.toInt ∧ x1.toInt ≤ 1 then 1 else 0 := u_in (x := x1.toInt) (u_w _) rfl rfl er_1
  refine lv_if_ne (tgt := 12) hx hb dX7_parting_7 (by decide) (fun c_3 => ?_) (fun c_3 => ?_)
  · skip
    have c_3 : 0 ≤ x1.toInt ∧ x1.toInt ≤ 1 := uz_t er_1 c_3
    refine lv_bipush (v := (-4)) hx hb dX7_parting_12 (by decide) ?_
    refine lv_istore_n (lv' := [(2, .int (-4)), (0, .ref (E.2.1 251)), (1, .int x1)]) hx hb dX7_parting_14 rfl hl (by decide) rfl (fun ls hl => ?_)
    refine lv_bipush (v := (-4)) hx hb dX7_parting_15 (by decide) ?_
    refine lv_istore_n (lv' := [(3, .int (-4)), (2, .int (-4)), (0, .ref (E.2.1 251)), (1, .int x1)]) hx hb dX7_parting_17 rfl hl (by decide) rfl (fun ls hl => ?_)
    refine lv_iconst (v := 0) hx hb dX7_parting_18 (by decide) ?_
    refine lv_istore (lv' := [(4, .int 0), (3, .int (-4)), (2, .int (-4)), (0, .ref (E.2.1 251)), (1, .int x1)]) hx hb dX7_parting_19 hl (by decide) rfl (fun ls hl => ?_)
    have lp21 : ∀ (n21 : Nat) (i : Nat) (bs ls0 : Int32), nw - i < n21 → i ≤ nw → (bs, ls0) = uPart (mWrongs M n) i → ∀ (H : Heap) (locs : List Loc) (ls : Array Slot), uH E M s_ H locs → lv_has ls 7 [(4, .int (nI i)), (3, .int ls0), (2, .int bs), (0, .ref (E.2.1 251)), (1, .int x1)] → W p_ l e_ ({ frames := 6, cells := 0, slots := 0, locals := 145 }) s_ m_ (List.toArray [.ref (E.2.1 251), .int x1]) bl_ me_ c_ H locs 0 0 (MQ bl_ (va_Qi (fun r u => M = u ∧ r = if 0 ≤ x1.toInt ∧ x1.toInt ≤ 1 then (if x1 = 0 then (uPart (mWrongs M n) nw).1 else (uPart (mWrongs M n) nw).2) else -1) (uP E) (uA E)) (List.toArray [.ref (E.2.1 251), .int x1]) s_ 0 0 (uA E)) (F0 m_ 21 ls []) := by
      intro n21
      induction n21 with
      | zero => intro i bs ls0 hms; exact absurd hms (Nat.not_lt_zero _)
      | succ n21 ih21 =>
        intro i bs ls0 hms21 hi hbl H locs ls h hl
        refine lv_iload hx hb dX7_parting_21 (lv_at hl 0 rfl) ?_
        refine lv_aload_n hx hb dX7_parting_23 rfl (lv_at hl 3 rfl) ?_
        refine ur_get C h 251 (by decide) (uc_251 E _) (Cn := RX7) (T := TX7) (N := 17) rfl hin7 0 (by decide) (by decide +kernel) rfl dX7_parting_24 ?_
        refine lv_iconst (v := 1) hx hb dX7_parting_27 (by decide) ?_
        refine ur_iald C h 252 (by decide) (uc_252 E _) (1) (by decide) (by decide) dX7_parting_28 ?_
        refine ur_eq (y := nI nw) (hnw) ?_
        refine lv_icmp_ge (tgt := 89) hx hb dX7_parting_29 (by decide) (fun c_4 => ?_) (fun c_4 => ?_)
        · skip
          have c_4 : nw ≤ i := (nI_leI (a := nw) (b := i) (by omega) (by omega)).mp c_4
          refine lv_iload_n hx hb dX7_parting_89 rfl (lv_at hl 4 rfl) ?_
          refine lv_if_ne (tgt := 97) hx hb dX7_parting_90 (by decide) (fun c_5 => ?_) (fun c_5 => ?_)
          · skip
            refine lv_iload_n hx hb dX7_parting_97 rfl (lv_at hl 1 rfl) ?_
            exact ur_iret C h hr hlocks (⟨rfl, by rw [if_pos (by assumption), if_neg c_5, ← show i = nw by omega, ← hbl]⟩) dX7_parting_98
          · skip
            refine lv_iload_n hx hb dX7_parting_93 rfl (lv_at hl 2 rfl) ?_
            refine lv_goto (tgt := 98) hx hb dX7_parting_94 (by decide) ?_
            exact ur_iret C h hr hlocks (⟨rfl, by rw [if_pos (by assumption), if_pos c_5, ← show i = nw by omega, ← hbl]⟩) dX7_parting_98
        · skip
          have c_4 : ¬ nw ≤ i := fun z => c_4 ((nI_leI (a := nw) (b := i) (by omega) (by omega)).mpr z)
          refine lv_aload_n hx hb dX7_parting_32 rfl (lv_at hl 3 rfl) ?_
          refine lv_iload hx hb dX7_parting_33 (lv_at hl 0 rfl) ?_
          refine ur_callVi C h (k := 251) (As := [.int (nI i)]) (rest := []) (k_X7_wrongsOf l E hI M i (by omega) n hn hn6 ht) (cwV 1 hts gX7_parting_X7_wrongsOf rfl rfl rfl (by decide +kernel) ⟨Nat.le_of_ble_eq_true rfl, Nat.le_of_ble_eq_true rfl⟩) (by decide) (uc_251 E _) (T := TX7) (N := 17) rfl rfl hl.1 rfl (Nat.le_of_ble_eq_true rfl) dX7_parting_35 (fun r_6 M_7 H locs hw_7 h => ?_)
          obtain ⟨hu, er_6⟩ := hw_7
          subst hu
          refine ur_eq (y := mWrongs M n i) er_6 ?_
          refine lv_istore (lv' := [(5, .int (mWrongs M n i)), (4, .int (nI i)), (3, .int ls0), (2, .int bs), (0, .ref (E.2.1 251)), (1, .int x1)]) hx hb dX7_parting_38 hl (by decide) rfl (fun ls hl => ?_)
          refine lv_iload_n hx hb dX7_parting_40 rfl (lv_at hl 3 rfl) ?_
          refine lv_bipush (v := (-4)) hx hb dX7_parting_41 (by decide) ?_
          refine lv_icmp_eq (tgt := 52) hx hb dX7_parting_43 (by decide) (fun c_8 => ?_) (fun c_8 => ?_)
          · skip
            refine lv_iconst (v := 1) hx hb dX7_parting_52 (by decide) ?_
            refine lv_goto (tgt := 57) hx hb dX7_parting_53 (by decide) ?_
            refine lv_istore (lv' := [(6, .int 1), (5, .int (mWrongs M n i)), (4, .int (nI i)), (3, .int ls0), (2, .int bs), (0, .ref (E.2.1 251)), (1, .int x1)]) hx hb dX7_parting_57 hl (by decide) rfl (fun ls hl => ?_)
            refine lv_iload hx hb dX7_parting_59 (lv_at hl 0 rfl) ?_
            refine lv_if_eq (tgt := 69) hx hb dX7_parting_61 (by decide) (fun z => absurd z (by decide)) (fun c_9 => ?_)
            refine lv_iload hx hb dX7_parting_64 (lv_at hl 2 rfl) ?_
            refine lv_goto (tgt := 70) hx hb dX7_parting_66 (by decide) ?_
            refine lv_istore_n (lv' := [(2, .int (nI i)), (6, .int 1), (5, .int (mWrongs M n i)), (4, .int (nI i)), (3, .int ls0), (0, .ref (E.2.1 251)), (1, .int x1)]) hx hb dX7_parting_70 rfl hl (by decide) rfl (fun ls hl => ?_)
            refine lv_iload hx hb dX7_parting_71 (lv_at hl 1 rfl) ?_
            refine lv_if_eq (tgt := 81) hx hb dX7_parting_73 (by decide) (fun z => absurd z (by decide)) (fun c_10 => ?_)
            refine lv_iload hx hb dX7_parting_76 (lv_at hl 2 rfl) ?_
            refine lv_goto (tgt := 82) hx hb dX7_parting_78 (by decide) ?_
            refine lv_istore_n (lv' := [(3, .int (mWrongs M n i)), (2, .int (nI i)), (6, .int 1), (5, .int (mWrongs M n i)), (4, .int (nI i)), (0, .ref (E.2.1 251)), (1, .int x1)]) hx hb dX7_parting_82 rfl hl (by decide) rfl (fun ls hl => ?_)
            refine lv_iinc (v := nI (i + 1)) (lv' := [(4, .int (nI (i + 1))), (3, .int (mWrongs M n i)), (2, .int (nI i)), (6, .int 1), (5, .int (mWrongs M n i)), (0, .ref (E.2.1 251)), (1, .int x1)]) hx hb dX7_parting_83 hl (k := 4) rfl (nI_add i 1) (by decide) rfl (fun ls hl => ?_)
            refine lv_goto (tgt := 21) hx hb dX7_parting_86 (by decide) ?_
            exact ih21  (i + 1) (nI i) (mWrongs M n i) (by omega) (by omega) (by first | rfl | (simp [uPart, ← hbl, c_8]; done)) _ _ _ h (lv_sub hl [0, 1, 2, 5, 6] rfl)
          · skip
            refine lv_iload hx hb dX7_parting_46 (lv_at hl 0 rfl) ?_
            refine lv_iload_n hx hb dX7_parting_48 rfl (lv_at hl 2 rfl) ?_
            refine lv_icmp_ge (tgt := 56) hx hb dX7_parting_49 (by decide) (fun c_11 => ?_) (fun c_11 => ?_)
            · skip
              refine lv_iconst (v := 0) hx hb dX7_parting_56 (by decide) ?_
              refine lv_istore (lv' := [(6, .int 0), (5, .int (mWrongs M n i)), (4, .int (nI i)), (3, .int ls0), (2, .int bs), (0, .ref (E.2.1 251)), (1, .int x1)]) hx hb dX7_parting_57 hl (by decide) rfl (fun ls hl => ?_)
              refine lv_iload hx hb dX7_parting_59 (lv_at hl 0 rfl) ?_
              refine lv_if_eq (tgt := 69) hx hb dX7_parting_61 (by decide) (fun c_12 => ?_) (fun z => absurd z (by decide))
              refine lv_iload_n hx hb dX7_parting_69 rfl (lv_at hl 4 rfl) ?_
              refine lv_istore_n (lv' := [(2, .int bs), (6, .int 0), (5, .int (mWrongs M n i)), (4, .int (nI i)), (3, .int ls0), (0, .ref (E.2.1 251)), (1, .int x1)]) hx hb dX7_parting_70 rfl hl (by decide) rfl (fun ls hl => ?_)
              refine lv_iload hx hb dX7_parting_71 (lv_at hl 1 rfl) ?_
              refine lv_if_eq (tgt := 81) hx hb dX7_parting_73 (by decide) (fun c_13 => ?_) (fun z => absurd z (by decide))
              refine lv_iload_n hx hb dX7_parting_81 rfl (lv_at hl 4 rfl) ?_
              refine lv_istore_n (lv' := [(3, .int ls0), (2, .int bs), (6, .int 0), (5, .int (mWrongs M n i)), (4, .int (nI i)), (0, .ref (E.2.1 251)), (1, .int x1)]) hx hb dX7_parting_82 rfl hl (by decide) rfl (fun ls hl => ?_)
              refine lv_iinc (v := nI (i + 1)) (lv' := [(4, .int (nI (i + 1))), (3, .int ls0), (2, .int bs), (6, .int 0), (5, .int (mWrongs M n i)), (0, .ref (E.2.1 251)), (1, .int x1)]) hx hb dX7_parting_83 hl (k := 4) rfl (nI_add i 1) (by decide) rfl (fun ls hl => ?_)
              refine lv_goto (tgt := 21) hx hb dX7_parting_86 (by decide) ?_
              exact ih21  (i + 1) bs ls0 (by omega) (by omega) (by first | rfl | (simp [uPart, ← hbl, c_8, c_11]; done)) _ _ _ h (lv_sub hl [0, 1, 2, 5, 6] rfl)
            · skip
              refine lv_iconst (v := 1) hx hb dX7_parting_52 (by decide) ?_
              refine lv_goto (tgt := 57) hx hb dX7_parting_53 (by decide) ?_
              refine lv_istore (lv' := [(6, .int 1), (5, .int (mWrongs M n i)), (4, .int (nI i)), (3, .int ls0), (2, .int bs), (0, .ref (E.2.1 251)), (1, .int x1)]) hx hb dX7_parting_57 hl (by decide) rfl (fun ls hl => ?_)
              refine lv_iload hx hb dX7_parting_59 (lv_at hl 0 rfl) ?_
              refine lv_if_eq (tgt := 69) hx hb dX7_parting_61 (by decide) (fun z => absurd z (by decide)) (fun c_14 => ?_)
              refine lv_iload hx hb dX7_parting_64 (lv_at hl 2 rfl) ?_
              refine lv_goto (tgt := 70) hx hb dX7_parting_66 (by decide) ?_
              refine lv_istore_n (lv' := [(2, .int (nI i)), (6, .int 1), (5, .int (mWrongs M n i)), (4, .int (nI i)), (3, .int ls0), (0, .ref (E.2.1 251)), (1, .int x1)]) hx hb dX7_parting_70 rfl hl (by decide) rfl (fun ls hl => ?_)
              refine lv_iload hx hb dX7_parting_71 (lv_at hl 1 rfl) ?_
              refine lv_if_eq (tgt := 81) hx hb dX7_parting_73 (by decide) (fun z => absurd z (by decide)) (fun c_15 => ?_)
              refine lv_iload hx hb dX7_parting_76 (lv_at hl 2 rfl) ?_
              refine lv_goto (tgt := 82) hx hb dX7_parting_78 (by decide) ?_
              refine lv_istore_n (lv' := [(3, .int (mWrongs M n i)), (2, .int (nI i)), (6, .int 1), (5, .int (mWrongs M n i)), (4, .int (nI i)), (0, .ref (E.2.1 251)), (1, .int x1)]) hx hb dX7_parting_82 rfl hl (by decide) rfl (fun ls hl => ?_)
              refine lv_iinc (v := nI (i + 1)) (lv' := [(4, .int (nI (i + 1))), (3, .int (mWrongs M n i)), (2, .int (nI i)), (6, .int 1), (5, .int (mWrongs M n i)), (0, .ref (E.2.1 251)), (1, .int x1)]) hx hb dX7_parting_83 hl (k := 4) rfl (nI_add i 1) (by decide) rfl (fun ls hl => ?_)
              refine lv_goto (tgt := 21) hx hb dX7_parting_86 (by decide) ?_
              exact ih21  (i + 1) (nI i) (mWrongs M n i) (by omega) (by omega) (by first | rfl | (simp [uPart, ← hbl, c_8, c_11]; done)) _ _ _ h (lv_sub hl [0, 1, 2, 5, 6] rfl)
    exact lp21 _ 0 (-4) (-4) (Nat.lt_succ_self _) (by omega) (by first | rfl | (simp [uPart, ← hbl, ]; done)) _ _ _ h (lv_sub hl [0, 1, 2, 3, 4] rfl)
  · skip
    have c_3 : ¬ (0 ≤ x1.toInt ∧ x1.toInt ≤ 1) := uz_f er_1 c_3
    refine lv_iconst (v := (-1)) hx hb dX7_parting_10 (by decide) ?_
    exact ur_iret C h hr hlocks (⟨rfl, by rw [if_neg c_3]⟩) dX7_parting_11
set_option maxHeartbeats 4000000 in
set_option maxRecDepth 100000 in
theorem k_X7_learn (l : Launch) (E : uE) (hI : uI E) (M : uM) (x1 x2 x3 x4 : Int32) (n : Nat) (hn : M.1 252 0 = nI n) (hn6 : n ≤ 6) (nw : Nat) (hnw : M.1 252 1 = nI nw) (hnw6 : nw ≤ 6) (ht : ¬ M.1 252 3 = 0) : Met l yX7_learn wsX7_learn ({ frames := 3, cells := 0, slots := 0, locals := 77 }) (va_Pc [.ref (E.2.1 251), .int x1, .int x2, .int x3, .int x4] (uB E M)) (va_Qi (fun r u => M = u ∧ r = if (0 ≤ x1.toInt ∧ x1.toInt < n) ∧ (0 ≤ x2.toInt ∧ x2.toInt < nw) ∧ (0 ≤ x3.toInt ∧ x3.toInt ≤ 6) ∧ (0 ≤ x4.toInt ∧ x4.toInt ≤ 1) then (if x4 = 0 then nI (uLearn (mOk M (tn x2) (tn x3) (M.1 252 (7 + 10 * tn x1 + 3))) (mLf M (tn x1) (tn x2) (M.1 252 (7 + 10 * tn x1 + 3))) 64).1 else (uLearn (mOk M (tn x2) (tn x3) (M.1 252 (7 + 10 * tn x1 + 3))) (mLf M (tn x1) (tn x2) (M.1 252 (7 + 10 * tn x1 + 3))) 64).2) else -1) (uP E) (uA E)) 0 0 (uA E) := by
  have hin7 : ∀ w ∈ wsX70, w ∈ wsX7_learn := by decide +kernel
  refine u_start (cc := cX7_learn) (maxL := 11) (ret := (some .int)) hI (by decide) rfl (Nat.le_of_ble_eq_true rfl) ?_
  intro p_ e_ s_ m_ bl_ me_ c_ C hr hlocks h ls hl
  have hx := C.1.1
  have hb := C.1.2.1
  have hown : s_.vm.findClass RX7 = some m_.cls := C.1.2.2.2.1
  have hts := C.1.2.2.2.2
  have hl : lv_has ls 11 [(0, .ref (E.2.1 251)), (1, .int x1), (2, .int x2), (3, .int x3), (4, .int x4)] := hl
  refine lv_aload_n hx hb dX7_learn_0 rfl (lv_at hl 0 rfl) ?_
  refine lv_iload_n hx hb dX7_learn_1 rfl (lv_at hl 1 rfl) ?_
  refine ur_callVi C h (k := 251) (As := [.int x1]) (rest := []) (k_X7_isSpeaker l E hI M x1 n hn hn6) (cwV 1 hts gX7_learn_X7_isSpeaker rfl rfl rfl (by decide +kernel) ⟨Nat.le_of_ble_eq_true rfl, Nat.le_of_ble_eq_true rfl⟩) (by decide) (uc_251 E _) (T := TX7) (N := 17) rfl rfl hl.1 rfl (Nat.le_of_ble_eq_true rfl) dX7_learn_2 (fun r_1 M_2 H locs hw_2 h => ?_)
  obtain ⟨hu, er_1⟩ := hw_2
  subst hu
  refine lv_if_eq (tgt := 39) hx hb dX7_learn_5 (by decide) (fun c_3 => ?_) (fun c_3 => ?_)
  · skip
    have c_3 : ¬ (0 ≤ x1.toInt ∧ x1.toInt < n) := uz_f er_1 c_3
    refine lv_iconst (v := (-1)) hx hb dX7_learn_39 (by decide) ?_
    exact ur_iret C h hr hlocks (⟨rfl, by rw [if_neg (by omega)]⟩) dX7_learn_40
  · skip
    have c_3 : 0 ≤ x1.toInt ∧ x1.toInt < n := uz_t er_1 c_3
    refine lv_aload_n hx hb dX7_learn_8 rfl (lv_at hl 0 rfl) ?_
    refine lv_iload_n hx hb dX7_learn_9 rfl (lv_at hl 2 rfl) ?_
    refine ur_callVi C h (k := 251) (As := [.int x2]) (rest := []) (k_X7_isWord l E hI M x2 nw hnw hnw6) (cwV 1 hts gX7_learn_X7_isWord rfl rfl rfl (by decide +kernel) ⟨Nat.le_of_ble_eq_true rfl, Nat.le_of_ble_eq_true rfl⟩) (by decide) (uc_251 E _) (T := TX7) (N := 17) rfl rfl hl.1 rfl (Nat.le_of_ble_eq_true rfl) dX7_learn_10 (fun r_4 M_5 H locs hw_5 h => ?_)
    obtain ⟨hu, er_4⟩ := hw_5
    subst hu
    refine lv_if_eq (tgt := 39) hx hb dX7_learn_13 (by decide) (fun c_6 => ?_) (fun c_6 => ?_)
    · skip
      have c_6 : ¬ (0 ≤ x2.toInt ∧ x2.toInt < nw) := uz_f er_4 c_6
      refine lv_iconst (v := (-1)) hx hb dX7_learn_39 (by decide) ?_
      exact ur_iret C h hr hlocks (⟨rfl, by rw [if_neg (by omega)]⟩) dX7_learn_40
    · skip
      have c_6 : 0 ≤ x2.toInt ∧ x2.toInt < nw := uz_t er_4 c_6
      refine lv_iload_n hx hb dX7_learn_16 rfl (lv_at hl 3 rfl) ?_
      refine lv_i2l (v := x3.toInt64) hx hb dX7_learn_17 rfl ?_
      refine lv_lconst (v := 0) hx hb dX7_learn_18 (by decide) ?_
      refine lv_ldc2 (v := 6) hx hb hown (hts (.constantLong RX7 174 6) (by decide +kernel)) dX7_learn_19 ?_
      refine ur_callSi C h (As := [.long x3.toInt64, .long 0, .long 6]) (rest := []) (k_X7_in l E hI M x3.toInt64 0 6) (va_cwS 3 hts gX7_learn_X7_in rfl rfl rfl (by decide +kernel) ⟨Nat.le_of_ble_eq_true rfl, Nat.le_of_ble_eq_true rfl⟩) rfl hl.1 rfl (Nat.le_of_ble_eq_true rfl) dX7_learn_22 (fun r_7 M_8 H locs hw_8 h => ?_)
      obtain ⟨hu, er_7⟩ := hw_8
      subst hu
      have er_7 : r_7 = if 0 ≤ x3.toInt ∧ x3.toInt ≤ 6 then 1 else 0 := u_in (x := x3.toInt) (u_w _) rfl rfl er_7
      refine lv_if_eq (tgt := 39) hx hb dX7_learn_25 (by decide) (fun c_9 => ?_) (fun c_9 => ?_)
      · skip
        have c_9 : ¬ (0 ≤ x3.toInt ∧ x3.toInt ≤ 6) := uz_f er_7 c_9
        refine lv_iconst (v := (-1)) hx hb dX7_learn_39 (by decide) ?_
        exact ur_iret C h hr hlocks (⟨rfl, by rw [if_neg (by omega)]⟩) dX7_learn_40
      · skip
        have c_9 : 0 ≤ x3.toInt ∧ x3.toInt ≤ 6 := uz_t er_7 c_9
        refine lv_iload hx hb dX7_learn_28 (lv_at hl 4 rfl) ?_
        refine lv_i2l (v := x4.toInt64) hx hb dX7_learn_30 rfl ?_
        refine lv_lconst (v := 0) hx hb dX7_learn_31 (by decide) ?_
        refine lv_lconst (v := 1) hx hb dX7_learn_32 (by decide) ?_
        refine ur_callSi C h (As := [.long x4.toInt64, .long 0, .long 1]) (rest := []) (k_X7_in l E hI M x4.toInt64 0 1) (va_cwS 3 hts gX7_learn_X7_in rfl rfl rfl (by decide +kernel) ⟨Nat.le_of_ble_eq_true rfl, Nat.le_of_ble_eq_true rfl⟩) rfl hl.1 rfl (Nat.le_of_ble_eq_true rfl) dX7_learn_33 (fun r_10 M_11 H locs hw_11 h => ?_)
        obtain ⟨hu, er_10⟩ := hw_11
        subst hu
        have er_10 : r_10 = if 0 ≤ x4.toInt ∧ x4.toInt ≤ 1 then 1 else 0 := u_in (x := x4.toInt) (u_w _) rfl rfl er_10
        refine lv_if_ne (tgt := 41) hx hb dX7_learn_36 (by decide) (fun c_12 => ?_) (fun c_12 => ?_)
        · skip
          have c_12 : 0 ≤ x4.toInt ∧ x4.toInt ≤ 1 := uz_t er_10 c_12
          obtain ⟨hnx1, enx1⟩ := u_tn c_3 (by omega)
          obtain ⟨hnx2, enx2⟩ := u_tn c_6 (by omega)
          obtain ⟨hnx3, enx3⟩ := u_tn (x := x3) (n := 7) ⟨by omega, by omega⟩ (by omega)
          refine lv_aload_n hx hb dX7_learn_41 rfl (lv_at hl 0 rfl) ?_
          refine lv_iload_n hx hb dX7_learn_42 rfl (lv_at hl 1 rfl) ?_
          refine ur_eq (y := nI (tn x1)) enx1 ?_
          refine lv_iconst (v := 3) hx hb dX7_learn_43 (by decide) ?_
          refine ur_callVi C h (k := 251) (As := [.int (nI (tn x1)), .int 3]) (rest := []) (k_X7_told l E hI M (tn x1) 3 (by omega)) (cwV 2 hts gX7_learn_X7_told rfl rfl rfl (by decide +kernel) ⟨Nat.le_of_ble_eq_true rfl, Nat.le_of_ble_eq_true rfl⟩) (by decide) (uc_251 E _) (T := TX7) (N := 17) rfl rfl hl.1 rfl (Nat.le_of_ble_eq_true rfl) dX7_learn_44 (fun r_13 M_14 H locs hw_14 h => ?_)
          obtain ⟨hu, er_13⟩ := hw_14
          subst hu
          refine ur_eq (y := M.1 252 (7 + 10 * (tn x1) + 3)) er_13 ?_
          refine lv_topi (fun v_15 ev_15 => ?_)
          refine lv_istore (lv' := [(5, .int v_15), (0, .ref (E.2.1 251)), (1, .int x1), (2, .int x2), (3, .int x3), (4, .int x4)]) hx hb dX7_learn_47 hl (by decide) rfl (fun ls hl => ?_)
          refine lv_iconst (v := 0) hx hb dX7_learn_49 (by decide) ?_
          refine lv_istore (lv' := [(6, .int 0), (5, .int v_15), (0, .ref (E.2.1 251)), (1, .int x1), (2, .int x2), (3, .int x3), (4, .int x4)]) hx hb dX7_learn_50 hl (by decide) rfl (fun ls hl => ?_)
          refine lv_iconst (v := (-1)) hx hb dX7_learn_52 (by decide) ?_
          refine lv_istore (lv' := [(7, .int (-1)), (6, .int 0), (5, .int v_15), (0, .ref (E.2.1 251)), (1, .int x1), (2, .int x2), (3, .int x3), (4, .int x4)]) hx hb dX7_learn_53 hl (by decide) rfl (fun ls hl => ?_)
          refine lv_iconst (v := 0) hx hb dX7_learn_55 (by decide) ?_
          refine lv_istore (lv' := [(8, .int 0), (7, .int (-1)), (6, .int 0), (5, .int v_15), (0, .ref (E.2.1 251)), (1, .int x1), (2, .int x2), (3, .int x3), (4, .int x4)]) hx hb dX7_learn_56 hl (by decide) rfl (fun ls hl => ?_)
          have lp58 : ∀ (n58 : Nat) (i b0 : Nat) (v0 : Int32), 64 - i < n58 → i ≤ 64 → (b0, v0) = uLearn (mOk M (tn x2) (tn x3) (M.1 252 (7 + 10 * tn x1 + 3))) (mLf M (tn x1) (tn x2) (M.1 252 (7 + 10 * tn x1 + 3))) i → b0 ≤ i ∧ b0 < 64 → ∀ (H : Heap) (locs : List Loc) (ls : Array Slot), uH E M s_ H locs → lv_has ls 11 [(8, .int (nI i)), (7, .int v0), (6, .int (nI b0)), (5, .int v_15), (0, .ref (E.2.1 251)), (1, .int x1), (2, .int x2), (3, .int x3), (4, .int x4)] → W p_ l e_ ({ frames := 3, cells := 0, slots := 0, locals := 77 }) s_ m_ (List.toArray [.ref (E.2.1 251), .int x1, .int x2, .int x3, .int x4]) bl_ me_ c_ H locs 0 0 (MQ bl_ (va_Qi (fun r u => M = u ∧ r = if (0 ≤ x1.toInt ∧ x1.toInt < n) ∧ (0 ≤ x2.toInt ∧ x2.toInt < nw) ∧ (0 ≤ x3.toInt ∧ x3.toInt ≤ 6) ∧ (0 ≤ x4.toInt ∧ x4.toInt ≤ 1) then (if x4 = 0 then nI (uLearn (mOk M (tn x2) (tn x3) (M.1 252 (7 + 10 * tn x1 + 3))) (mLf M (tn x1) (tn x2) (M.1 252 (7 + 10 * tn x1 + 3))) 64).1 else (uLearn (mOk M (tn x2) (tn x3) (M.1 252 (7 + 10 * tn x1 + 3))) (mLf M (tn x1) (tn x2) (M.1 252 (7 + 10 * tn x1 + 3))) 64).2) else -1) (uP E) (uA E)) (List.toArray [.ref (E.2.1 251), .int x1, .int x2, .int x3, .int x4]) s_ 0 0 (uA E)) (F0 m_ 58 ls []) := by
            intro n58
            induction n58 with
            | zero => intro i b0 v0 hms; exact absurd hms (Nat.not_lt_zero _)
            | succ n58 ih58 =>
              intro i b0 v0 hms58 hi hbl hb0 H locs ls h hl
              refine lv_iload hx hb dX7_learn_58 (lv_at hl 0 rfl) ?_
              refine lv_bipush (v := 64) hx hb dX7_learn_60 (by decide) ?_
              refine lv_icmp_ge (tgt := 187) hx hb dX7_learn_62 (by decide) (fun c_16 => ?_) (fun c_16 => ?_)
              · skip
                have c_16 : 64 ≤ i := (nI_leI (a := 64) (b := i) (by omega) (by omega)).mp c_16
                refine lv_iload hx hb dX7_learn_187 (lv_at hl 8 rfl) ?_
                refine lv_if_ne (tgt := 197) hx hb dX7_learn_189 (by decide) (fun c_17 => ?_) (fun c_17 => ?_)
                · skip
                  refine lv_iload hx hb dX7_learn_197 (lv_at hl 1 rfl) ?_
                  exact ur_iret C h hr hlocks (⟨rfl, by rw [if_pos (by omega), if_neg c_17, ← show i = 64 by omega, ← hbl]⟩) dX7_learn_199
                · skip
                  refine lv_iload hx hb dX7_learn_192 (lv_at hl 2 rfl) ?_
                  refine lv_goto (tgt := 199) hx hb dX7_learn_194 (by decide) ?_
                  exact ur_iret C h hr hlocks (⟨rfl, by rw [if_pos (by omega), if_pos c_17, ← show i = 64 by omega, ← hbl]⟩) dX7_learn_199
              · skip
                have c_16 : ¬ 64 ≤ i := fun z => c_16 ((nI_leI (a := 64) (b := i) (by omega) (by omega)).mpr z)
                refine lv_iload hx hb dX7_learn_65 (lv_at hl 0 rfl) ?_
                refine lv_aload_n hx hb dX7_learn_67 rfl (lv_at hl 4 rfl) ?_
                refine lv_iload_n hx hb dX7_learn_68 rfl (lv_at hl 6 rfl) ?_
                refine ur_eq (y := nI (tn x2)) enx2 ?_
                refine ur_callVi C h (k := 251) (As := [.int (nI (tn x2))]) (rest := [.int (nI i)]) (k_X7_sounds l E hI M (tn x2) (by omega)) (cwV 1 hts gX7_learn_X7_sounds rfl rfl rfl (by decide +kernel) ⟨Nat.le_of_ble_eq_true rfl, Nat.le_of_ble_eq_true rfl⟩) (by decide) (uc_251 E _) (T := TX7) (N := 17) rfl rfl hl.1 rfl (Nat.le_of_ble_eq_true rfl) dX7_learn_69 (fun r_18 M_19 H locs hw_19 h => ?_)
                obtain ⟨hu, er_18⟩ := hw_19
                subst hu
                refine ur_eq (y := M.1 252 (67 + 2 * (tn x2))) er_18 ?_
                refine lv_iconst (v := (-1)) hx hb dX7_learn_72 (by decide) ?_
                refine lv_ixor hx hb dX7_learn_73 ?_
                refine lv_iand hx hb dX7_learn_74 ?_
                refine lv_if_ne (tgt := 181) hx hb dX7_learn_75 (by decide) (fun c_20 => ?_) (fun c_20 => ?_)
                · skip
                  refine lv_iinc (v := nI (i + 1)) (lv' := [(8, .int (nI (i + 1))), (7, .int v0), (6, .int (nI b0)), (5, .int v_15), (0, .ref (E.2.1 251)), (1, .int x1), (2, .int x2), (3, .int x3), (4, .int x4)]) hx hb dX7_learn_181 hl (k := 0) rfl (nI_add i 1) (by decide) rfl (fun ls hl => ?_)
                  refine lv_goto (tgt := 58) hx hb dX7_learn_184 (by decide) ?_
                  exact ih58  (i + 1) b0 v0 (by omega) (by omega) (by subst ev_15; rw [uLearn, ← hbl]; dsimp only; rw [if_neg (fun z => c_20 (mOk_iff.mp z.1).1)]) (by omega) _ _ _ h (lv_sub hl [0, 1, 2, 3, 4, 5, 6, 7, 8] rfl)
                · skip
                  refine lv_iload hx hb dX7_learn_78 (lv_at hl 0 rfl) ?_
                  refine lv_iload hx hb dX7_learn_80 (lv_at hl 3 rfl) ?_
                  refine lv_iand hx hb dX7_learn_82 ?_
                  refine lv_if_ne (tgt := 181) hx hb dX7_learn_83 (by decide) (fun c_21 => ?_) (fun c_21 => ?_)
                  · skip
                    refine lv_iinc (v := nI (i + 1)) (lv' := [(8, .int (nI (i + 1))), (7, .int v0), (6, .int (nI b0)), (5, .int v_15), (0, .ref (E.2.1 251)), (1, .int x1), (2, .int x2), (3, .int x3), (4, .int x4)]) hx hb dX7_learn_181 hl (k := 0) rfl (nI_add i 1) (by decide) rfl (fun ls hl => ?_)
                    refine lv_goto (tgt := 58) hx hb dX7_learn_184 (by decide) ?_
                    exact ih58  (i + 1) b0 v0 (by omega) (by omega) (by subst ev_15; rw [uLearn, ← hbl]; dsimp only; rw [if_neg (fun z => c_21 (mOk_iff.mp z.1).2.1)]) (by omega) _ _ _ h (lv_sub hl [0, 1, 2, 3, 4, 5, 6, 7, 8] rfl)
                  · skip
                    refine lv_iload hx hb dX7_learn_86 (lv_at hl 0 rfl) ?_
                    refine ur_callSi C h (As := [.int (nI i)]) (rest := []) (k_X7_many l E hI M i (by omega)) (va_cwS 1 hts gX7_learn_X7_many rfl rfl rfl (by decide +kernel) ⟨Nat.le_of_ble_eq_true rfl, Nat.le_of_ble_eq_true rfl⟩) rfl hl.1 rfl (Nat.le_of_ble_eq_true rfl) dX7_learn_88 (fun r_22 M_23 H locs hw_23 h => ?_)
                    obtain ⟨hu, er_22⟩ := hw_23
                    subst hu
                    refine ur_eq (y := nI (pop i)) er_22 ?_
                    have hpr_22 : pop i ≤ 6 := pop6 (by omega)
                    refine lv_iload_n hx hb dX7_learn_91 rfl (lv_at hl 7 rfl) ?_
                    refine ur_eq (y := nI (tn x3)) enx3 ?_
                    refine lv_icmp_gt (tgt := 181) hx hb dX7_learn_92 (by decide) (fun c_24 => ?_) (fun c_24 => ?_)
                    · skip
                      have c_24 : (tn x3) < (pop i) := (nI_ltI (a := (tn x3)) (b := (pop i)) (by omega) (by omega)).mp c_24
                      refine lv_iinc (v := nI (i + 1)) (lv' := [(8, .int (nI (i + 1))), (7, .int v0), (6, .int (nI b0)), (5, .int v_15), (0, .ref (E.2.1 251)), (1, .int x1), (2, .int x2), (3, .int x3), (4, .int x4)]) hx hb dX7_learn_181 hl (k := 0) rfl (nI_add i 1) (by decide) rfl (fun ls hl => ?_)
                      refine lv_goto (tgt := 58) hx hb dX7_learn_184 (by decide) ?_
                      exact ih58  (i + 1) b0 v0 (by omega) (by omega) (by subst ev_15; rw [uLearn, ← hbl]; dsimp only; rw [if_neg (fun z => by have := (mOk_iff.mp z.1).2.2; omega)]) (by omega) _ _ _ h (lv_sub hl [0, 1, 2, 3, 4, 5, 6, 7, 8] rfl)
                    · skip
                      have c_24 : ¬ (tn x3) < (pop i) := fun z => c_24 ((nI_ltI (a := (tn x3)) (b := (pop i)) (by omega) (by omega)).mpr z)
                      refine lv_aload_n hx hb dX7_learn_95 rfl (lv_at hl 4 rfl) ?_
                      refine lv_iload_n hx hb dX7_learn_96 rfl (lv_at hl 5 rfl) ?_
                      refine ur_eq (y := nI (tn x1)) enx1 ?_
                      refine lv_iload_n hx hb dX7_learn_97 rfl (lv_at hl 6 rfl) ?_
                      refine ur_eq (y := nI (tn x2)) enx2 ?_
                      refine lv_aload_n hx hb dX7_learn_98 rfl (lv_at hl 4 rfl) ?_
                      refine ur_get C h 251 (by decide) (uc_251 E _) (Cn := RX7) (T := TX7) (N := 17) rfl hin7 0 (by decide) (by decide +kernel) rfl dX7_learn_99 ?_
                      refine lv_iconst (v := 4) hx hb dX7_learn_102 (by decide) ?_
                      refine ur_iald C h 252 (by decide) (uc_252 E _) (4) (by decide) (by decide) dX7_learn_103 ?_
                      refine lv_aload_n hx hb dX7_learn_104 rfl (lv_at hl 4 rfl) ?_
                      refine lv_iload_n hx hb dX7_learn_105 rfl (lv_at hl 6 rfl) ?_
                      refine ur_eq (y := nI (tn x2)) enx2 ?_
                      refine ur_callVi C h (k := 251) (As := [.int (nI (tn x2))]) (rest := [.int (M.1 252 4), .int (nI (tn x2)), .int (nI (tn x1)), .ref (E.2.1 251)]) (k_X7_wornOf l E hI M (tn x2) (by omega)) (cwV 1 hts gX7_learn_X7_wornOf rfl rfl rfl (by decide +kernel) ⟨Nat.le_of_ble_eq_true rfl, Nat.le_of_ble_eq_true rfl⟩) (by decide) (uc_251 E _) (T := TX7) (N := 17) rfl rfl hl.1 rfl (Nat.le_of_ble_eq_true rfl) dX7_learn_106 (fun r_25 M_26 H locs hw_26 h => ?_)
                      obtain ⟨hu, er_25⟩ := hw_26
                      subst hu
                      refine ur_eq (y := M.1 252 (67 + 2 * (tn x2) + 1)) er_25 ?_
                      refine lv_iload hx hb dX7_learn_109 (lv_at hl 3 rfl) ?_
                      refine lv_iload hx hb dX7_learn_111 (lv_at hl 0 rfl) ?_
                      refine lv_ior hx hb dX7_learn_113 ?_
                      refine ur_callVi C h (k := 251) (As := [.int (nI (tn x1)), .int (nI (tn x2)), .int (M.1 252 4), .int (M.1 252 (67 + 2 * (tn x2) + 1)), .int (v_15 ||| (nI i))]) (rest := []) (k_X7_passBy l E hI M (tn x1) (tn x2) (M.1 252 4) (M.1 252 (67 + 2 * (tn x2) + 1)) (v_15 ||| (nI i)) (by omega) (by omega) ht) (cwV 5 hts gX7_learn_X7_passBy rfl rfl rfl (by decide +kernel) ⟨Nat.le_of_ble_eq_true rfl, Nat.le_of_ble_eq_true rfl⟩) (by decide) (uc_251 E _) (T := TX7) (N := 17) rfl rfl hl.1 rfl (Nat.le_of_ble_eq_true rfl) dX7_learn_114 (fun r_27 M_28 H locs hw_28 h => ?_)
                      obtain ⟨hu, er_27⟩ := hw_28
                      subst hu
                      refine ur_eq (y := mPass M (tn x1) (tn x2) (M.1 252 4) (M.1 252 (67 + 2 * (tn x2) + 1)) (v_15 ||| (nI i))) er_27 ?_
                      refine lv_topi (fun v_29 ev_29 => ?_)
                      refine lv_istore (lv' := [(9, .int v_29), (8, .int (nI i)), (7, .int v0), (6, .int (nI b0)), (5, .int v_15), (0, .ref (E.2.1 251)), (1, .int x1), (2, .int x2), (3, .int x3), (4, .int x4)]) hx hb dX7_learn_117 hl (by decide) rfl (fun ls hl => ?_)
                      refine lv_iload hx hb dX7_learn_119 (lv_at hl 0 rfl) ?_
                      refine lv_iload hx hb dX7_learn_121 (lv_at hl 2 rfl) ?_
                      refine lv_icmp_gt (tgt := 146) hx hb dX7_learn_123 (by decide) (fun c_30 => ?_) (fun c_30 => ?_)
                      · skip
                        refine lv_iconst (v := 1) hx hb dX7_learn_146 (by decide) ?_
                        refine lv_goto (tgt := 151) hx hb dX7_learn_147 (by decide) ?_
                        refine lv_istore (lv' := [(10, .int 1), (9, .int v_29), (8, .int (nI i)), (7, .int v0), (6, .int (nI b0)), (5, .int v_15), (0, .ref (E.2.1 251)), (1, .int x1), (2, .int x2), (3, .int x3), (4, .int x4)]) hx hb dX7_learn_151 hl (by decide) rfl (fun ls hl => ?_)
                        refine lv_iload hx hb dX7_learn_153 (lv_at hl 0 rfl) ?_
                        refine lv_if_eq (tgt := 163) hx hb dX7_learn_155 (by decide) (fun z => absurd z (by decide)) (fun c_31 => ?_)
                        refine lv_iload hx hb dX7_learn_158 (lv_at hl 2 rfl) ?_
                        refine lv_goto (tgt := 165) hx hb dX7_learn_160 (by decide) ?_
                        refine lv_istore (lv' := [(6, .int (nI i)), (10, .int 1), (9, .int v_29), (8, .int (nI i)), (7, .int v0), (5, .int v_15), (0, .ref (E.2.1 251)), (1, .int x1), (2, .int x2), (3, .int x3), (4, .int x4)]) hx hb dX7_learn_165 hl (by decide) rfl (fun ls hl => ?_)
                        refine lv_iload hx hb dX7_learn_167 (lv_at hl 1 rfl) ?_
                        refine lv_if_eq (tgt := 177) hx hb dX7_learn_169 (by decide) (fun z => absurd z (by decide)) (fun c_32 => ?_)
                        refine lv_iload hx hb dX7_learn_172 (lv_at hl 2 rfl) ?_
                        refine lv_goto (tgt := 179) hx hb dX7_learn_174 (by decide) ?_
                        refine lv_istore (lv' := [(7, .int v_29), (6, .int (nI i)), (10, .int 1), (9, .int v_29), (8, .int (nI i)), (5, .int v_15), (0, .ref (E.2.1 251)), (1, .int x1), (2, .int x2), (3, .int x3), (4, .int x4)]) hx hb dX7_learn_179 hl (by decide) rfl (fun ls hl => ?_)
                        refine lv_iinc (v := nI (i + 1)) (lv' := [(8, .int (nI (i + 1))), (7, .int v_29), (6, .int (nI i)), (10, .int 1), (9, .int v_29), (5, .int v_15), (0, .ref (E.2.1 251)), (1, .int x1), (2, .int x2), (3, .int x3), (4, .int x4)]) hx hb dX7_learn_181 hl (k := 4) rfl (nI_add i 1) (by decide) rfl (fun ls hl => ?_)
                        refine lv_goto (tgt := 58) hx hb dX7_learn_184 (by decide) ?_
                        exact ih58  (i + 1) i v_29 (by omega) (by omega) (by subst ev_15; subst ev_29; rw [uLearn, ← hbl]; dsimp only; rw [if_pos ⟨mOk_iff.mpr ⟨c_20, c_21, by omega⟩, Or.inl (Int32.not_le.mpr c_30)⟩]; rfl) (by omega) _ _ _ h (lv_sub hl [0, 1, 2, 5, 6, 7, 8, 9, 10] rfl)
                      · skip
                        refine lv_iload hx hb dX7_learn_126 (lv_at hl 0 rfl) ?_
                        refine lv_iload hx hb dX7_learn_128 (lv_at hl 2 rfl) ?_
                        refine lv_icmp_ne (tgt := 150) hx hb dX7_learn_130 (by decide) (fun c_33 => ?_) (fun c_33 => ?_)
                        · skip
                          refine lv_iconst (v := 0) hx hb dX7_learn_150 (by decide) ?_
                          refine lv_istore (lv' := [(10, .int 0), (9, .int v_29), (8, .int (nI i)), (7, .int v0), (6, .int (nI b0)), (5, .int v_15), (0, .ref (E.2.1 251)), (1, .int x1), (2, .int x2), (3, .int x3), (4, .int x4)]) hx hb dX7_learn_151 hl (by decide) rfl (fun ls hl => ?_)
                          refine lv_iload hx hb dX7_learn_153 (lv_at hl 0 rfl) ?_
                          refine lv_if_eq (tgt := 163) hx hb dX7_learn_155 (by decide) (fun c_34 => ?_) (fun z => absurd z (by decide))
                          refine lv_iload hx hb dX7_learn_163 (lv_at hl 4 rfl) ?_
                          refine lv_istore (lv' := [(6, .int (nI b0)), (10, .int 0), (9, .int v_29), (8, .int (nI i)), (7, .int v0), (5, .int v_15), (0, .ref (E.2.1 251)), (1, .int x1), (2, .int x2), (3, .int x3), (4, .int x4)]) hx hb dX7_learn_165 hl (by decide) rfl (fun ls hl => ?_)
                          refine lv_iload hx hb dX7_learn_167 (lv_at hl 1 rfl) ?_
                          refine lv_if_eq (tgt := 177) hx hb dX7_learn_169 (by decide) (fun c_35 => ?_) (fun z => absurd z (by decide))
                          refine lv_iload hx hb dX7_learn_177 (lv_at hl 4 rfl) ?_
                          refine lv_istore (lv' := [(7, .int v0), (6, .int (nI b0)), (10, .int 0), (9, .int v_29), (8, .int (nI i)), (5, .int v_15), (0, .ref (E.2.1 251)), (1, .int x1), (2, .int x2), (3, .int x3), (4, .int x4)]) hx hb dX7_learn_179 hl (by decide) rfl (fun ls hl => ?_)
                          refine lv_iinc (v := nI (i + 1)) (lv' := [(8, .int (nI (i + 1))), (7, .int v0), (6, .int (nI b0)), (10, .int 0), (9, .int v_29), (5, .int v_15), (0, .ref (E.2.1 251)), (1, .int x1), (2, .int x2), (3, .int x3), (4, .int x4)]) hx hb dX7_learn_181 hl (k := 4) rfl (nI_add i 1) (by decide) rfl (fun ls hl => ?_)
                          refine lv_goto (tgt := 58) hx hb dX7_learn_184 (by decide) ?_
                          exact ih58  (i + 1) b0 v0 (by omega) (by omega) (by subst ev_15; subst ev_29; rw [uLearn, ← hbl]; dsimp only; rw [if_neg (fun z => by rcases z.2 with z | z; exact z (Int32.not_lt.mp c_30); exact c_33 z.1)]) (by omega) _ _ _ h (lv_sub hl [0, 1, 2, 5, 6, 7, 8, 9, 10] rfl)
                        · skip
                          refine lv_iload hx hb dX7_learn_133 (lv_at hl 1 rfl) ?_
                          refine ur_callSi C h (As := [.int (nI i)]) (rest := []) (k_X7_many l E hI M i (by omega)) (va_cwS 1 hts gX7_learn_X7_many rfl rfl rfl (by decide +kernel) ⟨Nat.le_of_ble_eq_true rfl, Nat.le_of_ble_eq_true rfl⟩) rfl hl.1 rfl (Nat.le_of_ble_eq_true rfl) dX7_learn_135 (fun r_36 M_37 H locs hw_37 h => ?_)
                          obtain ⟨hu, er_36⟩ := hw_37
                          subst hu
                          refine ur_eq (y := nI (pop i)) er_36 ?_
                          have hpr_36 : pop i ≤ 6 := pop6 (by omega)
                          refine lv_iload hx hb dX7_learn_138 (lv_at hl 3 rfl) ?_
                          refine ur_callSi C h (As := [.int (nI b0)]) (rest := [.int (nI (pop i))]) (k_X7_many l E hI M b0 (by omega)) (va_cwS 1 hts gX7_learn_X7_many rfl rfl rfl (by decide +kernel) ⟨Nat.le_of_ble_eq_true rfl, Nat.le_of_ble_eq_true rfl⟩) rfl hl.1 rfl (Nat.le_of_ble_eq_true rfl) dX7_learn_140 (fun r_38 M_39 H locs hw_39 h => ?_)
                          obtain ⟨hu, er_38⟩ := hw_39
                          subst hu
                          refine ur_eq (y := nI (pop b0)) er_38 ?_
                          have hpr_38 : pop b0 ≤ 6 := pop6 (by omega)
                          refine lv_icmp_ge (tgt := 150) hx hb dX7_learn_143 (by decide) (fun c_40 => ?_) (fun c_40 => ?_)
                          · skip
                            have c_40 : (pop b0) ≤ (pop i) := (nI_leI (a := (pop b0)) (b := (pop i)) (by omega) (by omega)).mp c_40
                            refine lv_iconst (v := 0) hx hb dX7_learn_150 (by decide) ?_
                            refine lv_istore (lv' := [(10, .int 0), (9, .int v_29), (8, .int (nI i)), (7, .int v0), (6, .int (nI b0)), (5, .int v_15), (0, .ref (E.2.1 251)), (1, .int x1), (2, .int x2), (3, .int x3), (4, .int x4)]) hx hb dX7_learn_151 hl (by decide) rfl (fun ls hl => ?_)
                            refine lv_iload hx hb dX7_learn_153 (lv_at hl 0 rfl) ?_
                            refine lv_if_eq (tgt := 163) hx hb dX7_learn_155 (by decide) (fun c_41 => ?_) (fun z => absurd z (by decide))
                            refine lv_iload hx hb dX7_learn_163 (lv_at hl 4 rfl) ?_
                            refine lv_istore (lv' := [(6, .int (nI b0)), (10, .int 0), (9, .int v_29), (8, .int (nI i)), (7, .int v0), (5, .int v_15), (0, .ref (E.2.1 251)), (1, .int x1), (2, .int x2), (3, .int x3), (4, .int x4)]) hx hb dX7_learn_165 hl (by decide) rfl (fun ls hl => ?_)
                            refine lv_iload hx hb dX7_learn_167 (lv_at hl 1 rfl) ?_
                            refine lv_if_eq (tgt := 177) hx hb dX7_learn_169 (by decide) (fun c_42 => ?_) (fun z => absurd z (by decide))
                            refine lv_iload hx hb dX7_learn_177 (lv_at hl 4 rfl) ?_
                            refine lv_istore (lv' := [(7, .int v0), (6, .int (nI b0)), (10, .int 0), (9, .int v_29), (8, .int (nI i)), (5, .int v_15), (0, .ref (E.2.1 251)), (1, .int x1), (2, .int x2), (3, .int x3), (4, .int x4)]) hx hb dX7_learn_179 hl (by decide) rfl (fun ls hl => ?_)
                            refine lv_iinc (v := nI (i + 1)) (lv' := [(8, .int (nI (i + 1))), (7, .int v0), (6, .int (nI b0)), (10, .int 0), (9, .int v_29), (5, .int v_15), (0, .ref (E.2.1 251)), (1, .int x1), (2, .int x2), (3, .int x3), (4, .int x4)]) hx hb dX7_learn_181 hl (k := 4) rfl (nI_add i 1) (by decide) rfl (fun ls hl => ?_)
                            refine lv_goto (tgt := 58) hx hb dX7_learn_184 (by decide) ?_
                            exact ih58  (i + 1) b0 v0 (by omega) (by omega) (by subst ev_15; subst ev_29; rw [uLearn, ← hbl]; dsimp only; rw [if_neg (fun z => by rcases z.2 with z | z; exact z (Int32.not_lt.mp c_30); have := z.2; omega)]) (by omega) _ _ _ h (lv_sub hl [0, 1, 2, 5, 6, 7, 8, 9, 10] rfl)
                          · skip
                            have c_40 : ¬ (pop b0) ≤ (pop i) := fun z => c_40 ((nI_leI (a := (pop b0)) (b := (pop i)) (by omega) (by omega)).mpr z)
                            refine lv_iconst (v := 1) hx hb dX7_learn_146 (by decide) ?_
                            refine lv_goto (tgt := 151) hx hb dX7_learn_147 (by decide) ?_
                            refine lv_istore (lv' := [(10, .int 1), (9, .int v_29), (8, .int (nI i)), (7, .int v0), (6, .int (nI b0)), (5, .int v_15), (0, .ref (E.2.1 251)), (1, .int x1), (2, .int x2), (3, .int x3), (4, .int x4)]) hx hb dX7_learn_151 hl (by decide) rfl (fun ls hl => ?_)
                            refine lv_iload hx hb dX7_learn_153 (lv_at hl 0 rfl) ?_
                            refine lv_if_eq (tgt := 163) hx hb dX7_learn_155 (by decide) (fun z => absurd z (by decide)) (fun c_43 => ?_)
                            refine lv_iload hx hb dX7_learn_158 (lv_at hl 2 rfl) ?_
                            refine lv_goto (tgt := 165) hx hb dX7_learn_160 (by decide) ?_
                            refine lv_istore (lv' := [(6, .int (nI i)), (10, .int 1), (9, .int v_29), (8, .int (nI i)), (7, .int v0), (5, .int v_15), (0, .ref (E.2.1 251)), (1, .int x1), (2, .int x2), (3, .int x3), (4, .int x4)]) hx hb dX7_learn_165 hl (by decide) rfl (fun ls hl => ?_)
                            refine lv_iload hx hb dX7_learn_167 (lv_at hl 1 rfl) ?_
                            refine lv_if_eq (tgt := 177) hx hb dX7_learn_169 (by decide) (fun z => absurd z (by decide)) (fun c_44 => ?_)
                            refine lv_iload hx hb dX7_learn_172 (lv_at hl 2 rfl) ?_
                            refine lv_goto (tgt := 179) hx hb dX7_learn_174 (by decide) ?_
                            refine lv_istore (lv' := [(7, .int v_29), (6, .int (nI i)), (10, .int 1), (9, .int v_29), (8, .int (nI i)), (5, .int v_15), (0, .ref (E.2.1 251)), (1, .int x1), (2, .int x2), (3, .int x3), (4, .int x4)]) hx hb dX7_learn_179 hl (by decide) rfl (fun ls hl => ?_)
                            refine lv_iinc (v := nI (i + 1)) (lv' := [(8, .int (nI (i + 1))), (7, .int v_29), (6, .int (nI i)), (10, .int 1), (9, .int v_29), (5, .int v_15), (0, .ref (E.2.1 251)), (1, .int x1), (2, .int x2), (3, .int x3), (4, .int x4)]) hx hb dX7_learn_181 hl (k := 4) rfl (nI_add i 1) (by decide) rfl (fun ls hl => ?_)
                            refine lv_goto (tgt := 58) hx hb dX7_learn_184 (by decide) ?_
                            exact ih58  (i + 1) i v_29 (by omega) (by omega) (by subst ev_15; subst ev_29; rw [uLearn, ← hbl]; dsimp only; rw [if_pos ⟨mOk_iff.mpr ⟨c_20, c_21, by omega⟩, Or.inr ⟨c_33, by omega⟩⟩]; rfl) (by omega) _ _ _ h (lv_sub hl [0, 1, 2, 5, 6, 7, 8, 9, 10] rfl)
          exact lp58 _ 0 0 (-1) (Nat.lt_succ_self _) (by omega) rfl (by omega) _ _ _ h (lv_sub hl [0, 1, 2, 3, 4, 5, 6, 7, 8] rfl)
        · skip
          have c_12 : ¬ (0 ≤ x4.toInt ∧ x4.toInt ≤ 1) := uz_f er_10 c_12
          refine lv_iconst (v := (-1)) hx hb dX7_learn_39 (by decide) ?_
          exact ur_iret C h hr hlocks (⟨rfl, by rw [if_neg (by omega)]⟩) dX7_learn_40
set_option maxHeartbeats 4000000 in
set_option maxRecDepth 100000 in
theorem k_X7_cross (l : Launch) (E : uE) (hI : uI E) (M : uM) (x1 x2 x3 : Int32) (n : Nat) (hn : M.1 252 0 = nI n) (hn6 : n ≤ 6) (nw : Nat) (hnw : M.1 252 1 = nI nw) (hnw6 : nw ≤ 6) (ht : ¬ M.1 252 3 = 0) : Met l yX7_cross wsX7_cross ({ frames := 4, cells := 0, slots := 0, locals := 100 }) (va_Pc [.ref (E.2.1 251), .int x1, .int x2, .int x3] (uB E M)) (va_Qi (fun r u => M = u ∧ r = if (0 ≤ x1.toInt ∧ x1.toInt < n) ∧ (0 ≤ x2.toInt ∧ x2.toInt < nw) ∧ (0 ≤ x3.toInt ∧ x3.toInt ≤ 1) then (if x3 = 0 then uCross (mPassIn M (tn x1) (tn x2)) (M.1 252 4) 23 else mPassIn M (tn x1) (tn x2) (uCross (mPassIn M (tn x1) (tn x2)) (M.1 252 4) 23)) else -1) (uP E) (uA E)) 0 0 (uA E) := by
  have hin7 : ∀ w ∈ wsX70, w ∈ wsX7_cross := by decide +kernel
  refine u_start (cc := cX7_cross) (maxL := 7) (ret := (some .int)) hI (by decide) rfl (Nat.le_of_ble_eq_true rfl) ?_
  intro p_ e_ s_ m_ bl_ me_ c_ C hr hlocks h ls hl
  have hx := C.1.1
  have hb := C.1.2.1
  have hown : s_.vm.findClass RX7 = some m_.cls := C.1.2.2.2.1
  have hts := C.1.2.2.2.2
  have hl : lv_has ls 7 [(0, .ref (E.2.1 251)), (1, .int x1), (2, .int x2), (3, .int x3)] := hl
  refine lv_aload_n hx hb dX7_cross_0 rfl (lv_at hl 0 rfl) ?_
  refine lv_iload_n hx hb dX7_cross_1 rfl (lv_at hl 1 rfl) ?_
  refine ur_callVi C h (k := 251) (As := [.int x1]) (rest := []) (k_X7_isSpeaker l E hI M x1 n hn hn6) (cwV 1 hts gX7_cross_X7_isSpeaker rfl rfl rfl (by decide +kernel) ⟨Nat.le_of_ble_eq_true rfl, Nat.le_of_ble_eq_true rfl⟩) (by decide) (uc_251 E _) (T := TX7) (N := 17) rfl rfl hl.1 rfl (Nat.le_of_ble_eq_true rfl) dX7_cross_2 (fun r_1 M_2 H locs hw_2 h => ?_)
  obtain ⟨hu, er_1⟩ := hw_2
  subst hu
  refine lv_if_eq (tgt := 26) hx hb dX7_cross_5 (by decide) (fun c_3 => ?_) (fun c_3 => ?_)
  · skip
    have c_3 : ¬ (0 ≤ x1.toInt ∧ x1.toInt < n) := uz_f er_1 c_3
    refine lv_iconst (v := (-1)) hx hb dX7_cross_26 (by decide) ?_
    exact ur_iret C h hr hlocks (⟨rfl, by rw [if_neg (by omega)]⟩) dX7_cross_27
  · skip
    have c_3 : 0 ≤ x1.toInt ∧ x1.toInt < n := uz_t er_1 c_3
    refine lv_aload_n hx hb dX7_cross_8 rfl (lv_at hl 0 rfl) ?_
    refine lv_iload_n hx hb dX7_cross_9 rfl (lv_at hl 2 rfl) ?_
    refine ur_callVi C h (k := 251) (As := [.int x2]) (rest := []) (k_X7_isWord l E hI M x2 nw hnw hnw6) (cwV 1 hts gX7_cross_X7_isWord rfl rfl rfl (by decide +kernel) ⟨Nat.le_of_ble_eq_true rfl, Nat.le_of_ble_eq_true rfl⟩) (by decide) (uc_251 E _) (T := TX7) (N := 17) rfl rfl hl.1 rfl (Nat.le_of_ble_eq_true rfl) dX7_cross_10 (fun r_4 M_5 H locs hw_5 h => ?_)
    obtain ⟨hu, er_4⟩ := hw_5
    subst hu
    refine lv_if_eq (tgt := 26) hx hb dX7_cross_13 (by decide) (fun c_6 => ?_) (fun c_6 => ?_)
    · skip
      have c_6 : ¬ (0 ≤ x2.toInt ∧ x2.toInt < nw) := uz_f er_4 c_6
      refine lv_iconst (v := (-1)) hx hb dX7_cross_26 (by decide) ?_
      exact ur_iret C h hr hlocks (⟨rfl, by rw [if_neg (by omega)]⟩) dX7_cross_27
    · skip
      have c_6 : 0 ≤ x2.toInt ∧ x2.toInt < nw := uz_t er_4 c_6
      refine lv_iload_n hx hb dX7_cross_16 rfl (lv_at hl 3 rfl) ?_
      refine lv_i2l (v := x3.toInt64) hx hb dX7_cross_17 rfl ?_
      refine lv_lconst (v := 0) hx hb dX7_cross_18 (by decide) ?_
      refine lv_lconst (v := 1) hx hb dX7_cross_19 (by decide) ?_
      refine ur_callSi C h (As := [.long x3.toInt64, .long 0, .long 1]) (rest := []) (k_X7_in l E hI M x3.toInt64 0 1) (va_cwS 3 hts gX7_cross_X7_in rfl rfl rfl (by decide +kernel) ⟨Nat.le_of_ble_eq_true rfl, Nat.le_of_ble_eq_true rfl⟩) rfl hl.1 rfl (Nat.le_of_ble_eq_true rfl) dX7_cross_20 (fun r_7 M_8 H locs hw_8 h => ?_)
      obtain ⟨hu, er_7⟩ := hw_8
      subst hu
      have er_7 : r_7 = if 0 ≤ x3.toInt ∧ x3.toInt ≤ 1 then 1 else 0 := u_in (x := x3.toInt) (u_w _) rfl rfl er_7
      refine lv_if_ne (tgt := 28) hx hb dX7_cross_23 (by decide) (fun c_9 => ?_) (fun c_9 => ?_)
      · skip
        have c_9 : 0 ≤ x3.toInt ∧ x3.toInt ≤ 1 := uz_t er_7 c_9
        obtain ⟨hnx1, enx1⟩ := u_tn c_3 (by omega)
        obtain ⟨hnx2, enx2⟩ := u_tn c_6 (by omega)
        refine lv_aload_n hx hb dX7_cross_28 rfl (lv_at hl 0 rfl) ?_
        refine ur_get C h 251 (by decide) (uc_251 E _) (Cn := RX7) (T := TX7) (N := 17) rfl hin7 0 (by decide) (by decide +kernel) rfl dX7_cross_29 ?_
        refine lv_iconst (v := 4) hx hb dX7_cross_32 (by decide) ?_
        refine ur_iald C h 252 (by decide) (uc_252 E _) (4) (by decide) (by decide) dX7_cross_33 ?_
        refine lv_istore (lv' := [(4, .int (M.1 252 4)), (0, .ref (E.2.1 251)), (1, .int x1), (2, .int x2), (3, .int x3)]) hx hb dX7_cross_34 hl (by decide) rfl (fun ls hl => ?_)
        refine lv_iconst (v := 1) hx hb dX7_cross_36 (by decide) ?_
        refine lv_istore (lv' := [(5, .int 1), (4, .int (M.1 252 4)), (0, .ref (E.2.1 251)), (1, .int x1), (2, .int x2), (3, .int x3)]) hx hb dX7_cross_37 hl (by decide) rfl (fun ls hl => ?_)
        have lp39 : ∀ (n39 : Nat) (i : Nat) (bs : Int32), 23 - i < n39 → i ≤ 23 → bs = uCross (mPassIn M (tn x1) (tn x2)) (M.1 252 4) i → ∀ (H : Heap) (locs : List Loc) (ls : Array Slot), uH E M s_ H locs → lv_has ls 7 [(5, .int (nI (i + 1))), (4, .int bs), (0, .ref (E.2.1 251)), (1, .int x1), (2, .int x2), (3, .int x3)] → W p_ l e_ ({ frames := 4, cells := 0, slots := 0, locals := 100 }) s_ m_ (List.toArray [.ref (E.2.1 251), .int x1, .int x2, .int x3]) bl_ me_ c_ H locs 0 0 (MQ bl_ (va_Qi (fun r u => M = u ∧ r = if (0 ≤ x1.toInt ∧ x1.toInt < n) ∧ (0 ≤ x2.toInt ∧ x2.toInt < nw) ∧ (0 ≤ x3.toInt ∧ x3.toInt ≤ 1) then (if x3 = 0 then uCross (mPassIn M (tn x1) (tn x2)) (M.1 252 4) 23 else mPassIn M (tn x1) (tn x2) (uCross (mPassIn M (tn x1) (tn x2)) (M.1 252 4) 23)) else -1) (uP E) (uA E)) (List.toArray [.ref (E.2.1 251), .int x1, .int x2, .int x3]) s_ 0 0 (uA E)) (F0 m_ 39 ls []) := by
          intro n39
          induction n39 with
          | zero => intro i bs hms; exact absurd hms (Nat.not_lt_zero _)
          | succ n39 ih39 =>
            intro i bs hms39 hi hbs H locs ls h hl
            refine lv_iload hx hb dX7_cross_39 (lv_at hl 0 rfl) ?_
            refine lv_bipush (v := 24) hx hb dX7_cross_41 (by decide) ?_
            refine lv_icmp_ge (tgt := 91) hx hb dX7_cross_43 (by decide) (fun c_10 => ?_) (fun c_10 => ?_)
            · skip
              have c_10 : 24 ≤ (i + 1) := (nI_leI (a := 24) (b := (i + 1)) (by omega) (by omega)).mp c_10
              refine lv_iload_n hx hb dX7_cross_91 rfl (lv_at hl 5 rfl) ?_
              refine lv_if_ne (tgt := 100) hx hb dX7_cross_92 (by decide) (fun c_11 => ?_) (fun c_11 => ?_)
              · skip
                refine lv_aload_n hx hb dX7_cross_100 rfl (lv_at hl 2 rfl) ?_
                refine lv_iload_n hx hb dX7_cross_101 rfl (lv_at hl 3 rfl) ?_
                refine ur_eq (y := nI (tn x1)) enx1 ?_
                refine lv_iload_n hx hb dX7_cross_102 rfl (lv_at hl 4 rfl) ?_
                refine ur_eq (y := nI (tn x2)) enx2 ?_
                refine lv_iload hx hb dX7_cross_103 (lv_at hl 1 rfl) ?_
                refine ur_callVi C h (k := 251) (As := [.int (nI (tn x1)), .int (nI (tn x2)), .int bs]) (rest := []) (k_X7_passIn l E hI M (tn x1) (tn x2) bs (by omega) (by omega) ht) (cwV 3 hts gX7_cross_X7_passIn rfl rfl rfl (by decide +kernel) ⟨Nat.le_of_ble_eq_true rfl, Nat.le_of_ble_eq_true rfl⟩) (by decide) (uc_251 E _) (T := TX7) (N := 17) rfl rfl hl.1 rfl (Nat.le_of_ble_eq_true rfl) dX7_cross_105 (fun r_12 M_13 H locs hw_13 h => ?_)
                obtain ⟨hu, er_12⟩ := hw_13
                subst hu
                refine ur_eq (y := mPassIn M (tn x1) (tn x2) bs) er_12 ?_
                exact ur_iret C h hr hlocks (⟨rfl, by rw [if_pos (by omega), if_neg c_11, ← show i = 23 by omega, ← hbs]⟩) dX7_cross_108
              · skip
                refine lv_iload hx hb dX7_cross_95 (lv_at hl 1 rfl) ?_
                refine lv_goto (tgt := 108) hx hb dX7_cross_97 (by decide) ?_
                exact ur_iret C h hr hlocks (⟨rfl, by rw [if_pos (by omega), if_pos c_11, ← show i = 23 by omega, ← hbs]⟩) dX7_cross_108
            · skip
              have c_10 : ¬ 24 ≤ (i + 1) := fun z => c_10 ((nI_leI (a := 24) (b := (i + 1)) (by omega) (by omega)).mpr z)
              refine lv_aload_n hx hb dX7_cross_46 rfl (lv_at hl 2 rfl) ?_
              refine ur_get C h 251 (by decide) (uc_251 E _) (Cn := RX7) (T := TX7) (N := 17) rfl hin7 0 (by decide) (by decide +kernel) rfl dX7_cross_47 ?_
              refine lv_iconst (v := 4) hx hb dX7_cross_50 (by decide) ?_
              refine ur_iald C h 252 (by decide) (uc_252 E _) (4) (by decide) (by decide) dX7_cross_51 ?_
              refine lv_iload hx hb dX7_cross_52 (lv_at hl 0 rfl) ?_
              refine lv_iadd hx hb dX7_cross_54 ?_
              refine lv_topi (fun v_14 ev_14 => ?_)
              refine lv_istore (lv' := [(6, .int v_14), (5, .int (nI (i + 1))), (4, .int bs), (0, .ref (E.2.1 251)), (1, .int x1), (2, .int x2), (3, .int x3)]) hx hb dX7_cross_55 hl (by decide) rfl (fun ls hl => ?_)
              refine lv_aload_n hx hb dX7_cross_57 rfl (lv_at hl 3 rfl) ?_
              refine lv_iload_n hx hb dX7_cross_58 rfl (lv_at hl 4 rfl) ?_
              refine ur_eq (y := nI (tn x1)) enx1 ?_
              refine lv_iload_n hx hb dX7_cross_59 rfl (lv_at hl 5 rfl) ?_
              refine ur_eq (y := nI (tn x2)) enx2 ?_
              refine lv_iload hx hb dX7_cross_60 (lv_at hl 0 rfl) ?_
              refine ur_callVi C h (k := 251) (As := [.int (nI (tn x1)), .int (nI (tn x2)), .int v_14]) (rest := []) (k_X7_passIn l E hI M (tn x1) (tn x2) v_14 (by omega) (by omega) ht) (cwV 3 hts gX7_cross_X7_passIn rfl rfl rfl (by decide +kernel) ⟨Nat.le_of_ble_eq_true rfl, Nat.le_of_ble_eq_true rfl⟩) (by decide) (uc_251 E _) (T := TX7) (N := 17) rfl rfl hl.1 rfl (Nat.le_of_ble_eq_true rfl) dX7_cross_62 (fun r_15 M_16 H locs hw_16 h => ?_)
              obtain ⟨hu, er_15⟩ := hw_16
              subst hu
              refine ur_eq (y := mPassIn M (tn x1) (tn x2) v_14) er_15 ?_
              refine lv_aload_n hx hb dX7_cross_65 rfl (lv_at hl 3 rfl) ?_
              refine lv_iload_n hx hb dX7_cross_66 rfl (lv_at hl 4 rfl) ?_
              refine ur_eq (y := nI (tn x1)) enx1 ?_
              refine lv_iload_n hx hb dX7_cross_67 rfl (lv_at hl 5 rfl) ?_
              refine ur_eq (y := nI (tn x2)) enx2 ?_
              refine lv_iload hx hb dX7_cross_68 (lv_at hl 2 rfl) ?_
              refine ur_callVi C h (k := 251) (As := [.int (nI (tn x1)), .int (nI (tn x2)), .int bs]) (rest := [.int (mPassIn M (tn x1) (tn x2) v_14)]) (k_X7_passIn l E hI M (tn x1) (tn x2) bs (by omega) (by omega) ht) (cwV 3 hts gX7_cross_X7_passIn rfl rfl rfl (by decide +kernel) ⟨Nat.le_of_ble_eq_true rfl, Nat.le_of_ble_eq_true rfl⟩) (by decide) (uc_251 E _) (T := TX7) (N := 17) rfl rfl hl.1 rfl (Nat.le_of_ble_eq_true rfl) dX7_cross_70 (fun r_17 M_18 H locs hw_18 h => ?_)
              obtain ⟨hu, er_17⟩ := hw_18
              subst hu
              refine ur_eq (y := mPassIn M (tn x1) (tn x2) bs) er_17 ?_
              refine lv_icmp_le (tgt := 81) hx hb dX7_cross_73 (by decide) (fun c_19 => ?_) (fun c_19 => ?_)
              · skip
                refine lv_iload hx hb dX7_cross_81 (lv_at hl 2 rfl) ?_
                refine lv_istore (lv' := [(4, .int bs), (6, .int v_14), (5, .int (nI (i + 1))), (0, .ref (E.2.1 251)), (1, .int x1), (2, .int x2), (3, .int x3)]) hx hb dX7_cross_83 hl (by decide) rfl (fun ls hl => ?_)
                refine lv_iinc (v := nI (i + 1 + 1)) (lv' := [(5, .int (nI (i + 1 + 1))), (4, .int bs), (6, .int v_14), (0, .ref (E.2.1 251)), (1, .int x1), (2, .int x2), (3, .int x3)]) hx hb dX7_cross_85 hl (k := 2) rfl (nI_add (i + 1) 1) (by decide) rfl (fun ls hl => ?_)
                refine lv_goto (tgt := 39) hx hb dX7_cross_88 (by decide) ?_
                exact ih39  (i + 1) bs (by omega) (by omega) (by first | rfl | (subst ev_14; simp [uCross, ← hbs, c_19]; done)) _ _ _ h (lv_sub hl [0, 1, 3, 4, 5, 6] rfl)
              · skip
                refine lv_iload hx hb dX7_cross_76 (lv_at hl 0 rfl) ?_
                refine lv_goto (tgt := 83) hx hb dX7_cross_78 (by decide) ?_
                refine lv_istore (lv' := [(4, .int v_14), (6, .int v_14), (5, .int (nI (i + 1))), (0, .ref (E.2.1 251)), (1, .int x1), (2, .int x2), (3, .int x3)]) hx hb dX7_cross_83 hl (by decide) rfl (fun ls hl => ?_)
                refine lv_iinc (v := nI (i + 1 + 1)) (lv' := [(5, .int (nI (i + 1 + 1))), (4, .int v_14), (6, .int v_14), (0, .ref (E.2.1 251)), (1, .int x1), (2, .int x2), (3, .int x3)]) hx hb dX7_cross_85 hl (k := 2) rfl (nI_add (i + 1) 1) (by decide) rfl (fun ls hl => ?_)
                refine lv_goto (tgt := 39) hx hb dX7_cross_88 (by decide) ?_
                exact ih39  (i + 1) v_14 (by omega) (by omega) (by first | rfl | (subst ev_14; simp [uCross, ← hbs, c_19]; done)) _ _ _ h (lv_sub hl [0, 1, 3, 4, 5, 6] rfl)
        exact lp39 _ 0 (M.1 252 4) (Nat.lt_succ_self _) (by omega) (by first | rfl | (simp [uCross, ← hbs, c_6, c_9]; done)) _ _ _ h (lv_sub hl [0, 1, 2, 3, 4, 5] rfl)
      · skip
        have c_9 : ¬ (0 ≤ x3.toInt ∧ x3.toInt ≤ 1) := uz_f er_7 c_9
        refine lv_iconst (v := (-1)) hx hb dX7_cross_26 (by decide) ?_
        exact ur_iret C h hr hlocks (⟨rfl, by rw [if_neg (by omega)]⟩) dX7_cross_27
set_option maxHeartbeats 4000000 in
set_option maxRecDepth 100000 in
theorem k_X7_image (l : Launch) (E : uE) (hI : uI E) (M : uM)  : Met l yX7_image wsX7_image ({ frames := 0, cells := 0, slots := 0, locals := 0 }) (va_Pc [.ref (E.2.1 251)] (uB E M)) (va_Qi (fun r u => u = mImage M ∧ r = 1) (uP E) (uA E)) 0 0 (uA E) := by
  have hin7 : ∀ w ∈ wsX70, w ∈ wsX7_image := by decide +kernel
  refine u_start (cc := cX7_image) (maxL := 2) (ret := (some .int)) hI (by decide) rfl (Nat.le_of_ble_eq_true rfl) ?_
  intro p_ e_ s_ m_ bl_ me_ c_ C hr hlocks h ls hl
  have hx := C.1.1
  have hb := C.1.2.1
  have hown : s_.vm.findClass RX7 = some m_.cls := C.1.2.2.2.1
  have hts := C.1.2.2.2.2
  have hl : lv_has ls 2 [(0, .ref (E.2.1 251))] := hl
  refine lv_iconst (v := 0) hx hb dX7_image_0 (by decide) ?_
  refine lv_istore_n (lv' := [(1, .int 0), (0, .ref (E.2.1 251))]) hx hb dX7_image_1 rfl hl (by decide) rfl (fun ls hl => ?_)
  have lp2 : ∀ (n2 : Nat) (i : Nat) (Mi : uM), 115 - i < n2 → i ≤ 115 → Mi = uRow M 258 (va_cpy (M.1 252) (M.1 258) 0 0 i) → ∀ (H : Heap) (locs : List Loc) (ls : Array Slot), uH E Mi s_ H locs → lv_has ls 2 [(1, .int (nI i)), (0, .ref (E.2.1 251))] → W p_ l e_ ({ frames := 0, cells := 0, slots := 0, locals := 0 }) s_ m_ (List.toArray [.ref (E.2.1 251)]) bl_ me_ c_ H locs 0 0 (MQ bl_ (va_Qi (fun r u => u = mImage M ∧ r = 1) (uP E) (uA E)) (List.toArray [.ref (E.2.1 251)]) s_ 0 0 (uA E)) (F0 m_ 2 ls []) := by
    intro n2
    induction n2 with
    | zero => intro i Mi hms; exact absurd hms (Nat.not_lt_zero _)
    | succ n2 ih2 =>
      intro i Mi hms2 hi hMi H locs ls h hl
      refine lv_iload_n hx hb dX7_image_2 rfl (lv_at hl 0 rfl) ?_
      refine lv_bipush (v := 115) hx hb dX7_image_3 (by decide) ?_
      refine lv_icmp_ge (tgt := 26) hx hb dX7_image_5 (by decide) (fun c_1 => ?_) (fun c_1 => ?_)
      · skip
        have c_1 : 115 ≤ i := (nI_leI (a := 115) (b := i) (by omega) (by omega)).mp c_1
        refine lv_iconst (v := 0) hx hb dX7_image_26 (by decide) ?_
        refine lv_istore_n (lv' := [(1, .int 0), (0, .ref (E.2.1 251))]) hx hb dX7_image_27 rfl hl (by decide) rfl (fun ls hl => ?_)
        have lp28 : ∀ (n28 : Nat) (i2 : Nat) (Mi2 : uM), 920 - i2 < n28 → i2 ≤ 920 → Mi2 = uRow Mi 258 (va_cpy (Mi.1 256) (Mi.1 258) 0 115 i2) → ∀ (H : Heap) (locs : List Loc) (ls : Array Slot), uH E Mi2 s_ H locs → lv_has ls 2 [(1, .int (nI i2)), (0, .ref (E.2.1 251))] → W p_ l e_ ({ frames := 0, cells := 0, slots := 0, locals := 0 }) s_ m_ (List.toArray [.ref (E.2.1 251)]) bl_ me_ c_ H locs 0 0 (MQ bl_ (va_Qi (fun r u => u = mImage M ∧ r = 1) (uP E) (uA E)) (List.toArray [.ref (E.2.1 251)]) s_ 0 0 (uA E)) (F0 m_ 28 ls []) := by
          intro n28
          induction n28 with
          | zero => intro i2 Mi2 hms; exact absurd hms (Nat.not_lt_zero _)
          | succ n28 ih28 =>
            intro i2 Mi2 hms28 hi2 hMi2 H locs ls h hl
            refine lv_iload_n hx hb dX7_image_28 rfl (lv_at hl 0 rfl) ?_
            refine lv_sipush (v := 920) hx hb dX7_image_29 (by decide) ?_
            refine lv_icmp_ge (tgt := 56) hx hb dX7_image_32 (by decide) (fun c_2 => ?_) (fun c_2 => ?_)
            · skip
              have c_2 : 920 ≤ i2 := (nI_leI (a := 920) (b := i2) (by omega) (by omega)).mp c_2
              refine lv_aload_n hx hb dX7_image_56 rfl (lv_at hl 1 rfl) ?_
              refine lv_aload_n hx hb dX7_image_57 rfl (lv_at hl 1 rfl) ?_
              refine ur_get C h 251 (by decide) (uc_251 E _) (Cn := RX7) (T := TX7) (N := 17) rfl hin7 8 (by decide) (by decide +kernel) rfl dX7_image_58 ?_
              refine ur_puti C h 251 (by decide) (uc_251 E _) (Cn := RX7) (T := TX7) (N := 17) rfl hin7 tyX7 tyX7_ok nmX7 11 (by decide) (by decide +kernel) rfl rfl rfl (Nat.le_of_ble_eq_true rfl) (us_251_11 E _ _) dX7_image_61 (fun M_3 H locs eM_3 h => ?_)
              refine lv_aload_n hx hb dX7_image_64 rfl (lv_at hl 1 rfl) ?_
              refine lv_iconst (v := 1) hx hb dX7_image_65 (by decide) ?_
              refine ur_puti C h 251 (by decide) (uc_251 E _) (Cn := RX7) (T := TX7) (N := 17) rfl hin7 tyX7 tyX7_ok nmX7 12 (by decide) (by decide +kernel) rfl (by rfl) rfl (Nat.le_of_ble_eq_true rfl) (us_251_12 E _ _) dX7_image_66 (fun M_4 H locs eM_4 h => ?_)
              refine lv_iconst (v := 1) hx hb dX7_image_69 (by decide) ?_
              exact ur_iret C h hr hlocks (by subst eM_3; subst eM_4; rw [hMi2, hMi, show i2 = 920 by omega, show i = 115 by omega]; exact ⟨rfl, rfl⟩) dX7_image_70
            · skip
              have c_2 : ¬ 920 ≤ i2 := fun z => c_2 ((nI_leI (a := 920) (b := i2) (by omega) (by omega)).mpr z)
              refine lv_aload_n hx hb dX7_image_35 rfl (lv_at hl 1 rfl) ?_
              refine ur_get C h 251 (by decide) (uc_251 E _) (Cn := RX7) (T := TX7) (N := 17) rfl hin7 10 (by decide) (by decide +kernel) rfl dX7_image_36 ?_
              refine lv_bipush (v := 115) hx hb dX7_image_39 (by decide) ?_
              refine lv_iload_n hx hb dX7_image_41 rfl (lv_at hl 0 rfl) ?_
              refine lv_iadd hx hb dX7_image_42 ?_
              refine ur_eq (y := nI (115 + i2)) (nI_add 115 i2) ?_
              refine lv_aload_n hx hb dX7_image_43 rfl (lv_at hl 1 rfl) ?_
              refine ur_get C h 251 (by decide) (uc_251 E _) (Cn := RX7) (T := TX7) (N := 17) rfl hin7 7 (by decide) (by decide +kernel) rfl dX7_image_44 ?_
              refine lv_iload_n hx hb dX7_image_47 rfl (lv_at hl 0 rfl) ?_
              refine ur_iald C h 256 (by decide) (uc_256 E _) (i2) (by omega) (by decide) dX7_image_48 ?_
              refine ur_iast C h 258 (by decide) (uc_258 E) (115 + i2) (by omega) (by decide) dX7_image_49 (fun M_5 H locs eM_5 h => ?_)
              refine lv_iinc (v := nI (i2 + 1)) (lv' := [(1, .int (nI (i2 + 1))), (0, .ref (E.2.1 251))]) hx hb dX7_image_50 hl (k := 0) rfl (nI_add i2 1) (by decide) rfl (fun ls hl => ?_)
              refine lv_goto (tgt := 28) hx hb dX7_image_53 (by decide) ?_
              exact ih28  (i2 + 1) M_5 (by omega) (by omega) (by rw [eM_5, hMi2]; exact u_cpS (by omega) (by rw [u_row1, if_neg (by decide)]; try exact congrArg _ (by omega))) _ _ _ h (lv_sub hl [0, 1] rfl)
        exact lp28 _ 0 Mi (Nat.lt_succ_self _) (by omega) u_cp0 _ _ _ h (lv_sub hl [0, 1] rfl)
      · skip
        have c_1 : ¬ 115 ≤ i := fun z => c_1 ((nI_leI (a := 115) (b := i) (by omega) (by omega)).mpr z)
        refine lv_aload_n hx hb dX7_image_8 rfl (lv_at hl 1 rfl) ?_
        refine ur_get C h 251 (by decide) (uc_251 E _) (Cn := RX7) (T := TX7) (N := 17) rfl hin7 10 (by decide) (by decide +kernel) rfl dX7_image_9 ?_
        refine lv_iload_n hx hb dX7_image_12 rfl (lv_at hl 0 rfl) ?_
        refine lv_aload_n hx hb dX7_image_13 rfl (lv_at hl 1 rfl) ?_
        refine ur_get C h 251 (by decide) (uc_251 E _) (Cn := RX7) (T := TX7) (N := 17) rfl hin7 0 (by decide) (by decide +kernel) rfl dX7_image_14 ?_
        refine lv_iload_n hx hb dX7_image_17 rfl (lv_at hl 0 rfl) ?_
        refine ur_iald C h 252 (by decide) (uc_252 E _) (i) (by omega) (by decide) dX7_image_18 ?_
        refine ur_iast C h 258 (by decide) (uc_258 E) (i) (by omega) (by decide) dX7_image_19 (fun M_6 H locs eM_6 h => ?_)
        refine lv_iinc (v := nI (i + 1)) (lv' := [(1, .int (nI (i + 1))), (0, .ref (E.2.1 251))]) hx hb dX7_image_20 hl (k := 0) rfl (nI_add i 1) (by decide) rfl (fun ls hl => ?_)
        refine lv_goto (tgt := 2) hx hb dX7_image_23 (by decide) ?_
        exact ih2  (i + 1) M_6 (by omega) (by omega) (by rw [eM_6, hMi]; exact u_cpS (by omega) (by rw [u_row1, if_neg (by decide)]; try exact congrArg _ (by omega))) _ _ _ h (lv_sub hl [0, 1] rfl)
  exact lp2 _ 0 M (Nat.lt_succ_self _) (by omega) u_cp0 _ _ _ h (lv_sub hl [0, 1] rfl)
set_option maxHeartbeats 4000000 in
set_option maxRecDepth 100000 in
theorem k_X7_restore (l : Launch) (E : uE) (hI : uI E) (M : uM)  : Met l yX7_restore wsX7_restore ({ frames := 0, cells := 0, slots := 0, locals := 0 }) (va_Pc [.ref (E.2.1 251)] (uB E M)) (va_Qi (fun r u => if M.1 251 12 = 0 then r = -4 ∧ M = u else u = mRestore M ∧ r = 1) (uP E) (uA E)) 0 0 (uA E) := by
  have hin7 : ∀ w ∈ wsX70, w ∈ wsX7_restore := by decide +kernel
  refine u_start (cc := cX7_restore) (maxL := 2) (ret := (some .int)) hI (by decide) rfl (Nat.le_of_ble_eq_true rfl) ?_
  intro p_ e_ s_ m_ bl_ me_ c_ C hr hlocks h ls hl
  have hx := C.1.1
  have hb := C.1.2.1
  have hown : s_.vm.findClass RX7 = some m_.cls := C.1.2.2.2.1
  have hts := C.1.2.2.2.2
  have hl : lv_has ls 2 [(0, .ref (E.2.1 251))] := hl
  refine lv_aload_n hx hb dX7_restore_0 rfl (lv_at hl 0 rfl) ?_
  refine ur_get C h 251 (by decide) (uc_251 E _) (Cn := RX7) (T := TX7) (N := 17) rfl hin7 12 (by decide) (by decide +kernel) rfl dX7_restore_1 ?_
  refine lv_if_ne (tgt := 10) hx hb dX7_restore_4 (by decide) (fun c_1 => ?_) (fun c_1 => ?_)
  · skip
    refine lv_iconst (v := 0) hx hb dX7_restore_10 (by decide) ?_
    refine lv_istore_n (lv' := [(1, .int 0), (0, .ref (E.2.1 251))]) hx hb dX7_restore_11 rfl hl (by decide) rfl (fun ls hl => ?_)
    have lp12 : ∀ (n12 : Nat) (i : Nat) (Mi : uM), 115 - i < n12 → i ≤ 115 → Mi = uRow M 252 (va_cpy (M.1 258) (M.1 252) 0 0 i) → ∀ (H : Heap) (locs : List Loc) (ls : Array Slot), uH E Mi s_ H locs → lv_has ls 2 [(1, .int (nI i)), (0, .ref (E.2.1 251))] → W p_ l e_ ({ frames := 0, cells := 0, slots := 0, locals := 0 }) s_ m_ (List.toArray [.ref (E.2.1 251)]) bl_ me_ c_ H locs 0 0 (MQ bl_ (va_Qi (fun r u => if M.1 251 12 = 0 then r = -4 ∧ M = u else u = mRestore M ∧ r = 1) (uP E) (uA E)) (List.toArray [.ref (E.2.1 251)]) s_ 0 0 (uA E)) (F0 m_ 12 ls []) := by
      intro n12
      induction n12 with
      | zero => intro i Mi hms; exact absurd hms (Nat.not_lt_zero _)
      | succ n12 ih12 =>
        intro i Mi hms12 hi hMi H locs ls h hl
        refine lv_iload_n hx hb dX7_restore_12 rfl (lv_at hl 0 rfl) ?_
        refine lv_bipush (v := 115) hx hb dX7_restore_13 (by decide) ?_
        refine lv_icmp_ge (tgt := 36) hx hb dX7_restore_15 (by decide) (fun c_2 => ?_) (fun c_2 => ?_)
        · skip
          have c_2 : 115 ≤ i := (nI_leI (a := 115) (b := i) (by omega) (by omega)).mp c_2
          refine lv_iconst (v := 0) hx hb dX7_restore_36 (by decide) ?_
          refine lv_istore_n (lv' := [(1, .int 0), (0, .ref (E.2.1 251))]) hx hb dX7_restore_37 rfl hl (by decide) rfl (fun ls hl => ?_)
          have lp38 : ∀ (n38 : Nat) (i2 : Nat) (Mi2 : uM), 920 - i2 < n38 → i2 ≤ 920 → Mi2 = uRow Mi 256 (va_cpy (Mi.1 258) (Mi.1 256) 115 0 i2) → ∀ (H : Heap) (locs : List Loc) (ls : Array Slot), uH E Mi2 s_ H locs → lv_has ls 2 [(1, .int (nI i2)), (0, .ref (E.2.1 251))] → W p_ l e_ ({ frames := 0, cells := 0, slots := 0, locals := 0 }) s_ m_ (List.toArray [.ref (E.2.1 251)]) bl_ me_ c_ H locs 0 0 (MQ bl_ (va_Qi (fun r u => if M.1 251 12 = 0 then r = -4 ∧ M = u else u = mRestore M ∧ r = 1) (uP E) (uA E)) (List.toArray [.ref (E.2.1 251)]) s_ 0 0 (uA E)) (F0 m_ 38 ls []) := by
            intro n38
            induction n38 with
            | zero => intro i2 Mi2 hms; exact absurd hms (Nat.not_lt_zero _)
            | succ n38 ih38 =>
              intro i2 Mi2 hms38 hi2 hMi2 H locs ls h hl
              refine lv_iload_n hx hb dX7_restore_38 rfl (lv_at hl 0 rfl) ?_
              refine lv_sipush (v := 920) hx hb dX7_restore_39 (by decide) ?_
              refine lv_icmp_ge (tgt := 66) hx hb dX7_restore_42 (by decide) (fun c_3 => ?_) (fun c_3 => ?_)
              · skip
                have c_3 : 920 ≤ i2 := (nI_leI (a := 920) (b := i2) (by omega) (by omega)).mp c_3
                refine lv_aload_n hx hb dX7_restore_66 rfl (lv_at hl 1 rfl) ?_
                refine lv_aload_n hx hb dX7_restore_67 rfl (lv_at hl 1 rfl) ?_
                refine ur_get C h 251 (by decide) (uc_251 E _) (Cn := RX7) (T := TX7) (N := 17) rfl hin7 11 (by decide) (by decide +kernel) rfl dX7_restore_68 ?_
                refine ur_puti C h 251 (by decide) (uc_251 E _) (Cn := RX7) (T := TX7) (N := 17) rfl hin7 tyX7 tyX7_ok nmX7 8 (by decide) (by decide +kernel) rfl rfl rfl (Nat.le_of_ble_eq_true rfl) (us_251_8 E _ _) dX7_restore_71 (fun M_4 H locs eM_4 h => ?_)
                refine lv_iconst (v := 1) hx hb dX7_restore_74 (by decide) ?_
                exact ur_iret C h hr hlocks (by rw [if_neg (by assumption)]; subst eM_4; rw [hMi2, hMi, show i2 = 920 by omega, show i = 115 by omega]; exact ⟨rfl, rfl⟩) dX7_restore_75
              · skip
                have c_3 : ¬ 920 ≤ i2 := fun z => c_3 ((nI_leI (a := 920) (b := i2) (by omega) (by omega)).mpr z)
                refine lv_aload_n hx hb dX7_restore_45 rfl (lv_at hl 1 rfl) ?_
                refine ur_get C h 251 (by decide) (uc_251 E _) (Cn := RX7) (T := TX7) (N := 17) rfl hin7 7 (by decide) (by decide +kernel) rfl dX7_restore_46 ?_
                refine lv_iload_n hx hb dX7_restore_49 rfl (lv_at hl 0 rfl) ?_
                refine lv_aload_n hx hb dX7_restore_50 rfl (lv_at hl 1 rfl) ?_
                refine ur_get C h 251 (by decide) (uc_251 E _) (Cn := RX7) (T := TX7) (N := 17) rfl hin7 10 (by decide) (by decide +kernel) rfl dX7_restore_51 ?_
                refine lv_bipush (v := 115) hx hb dX7_restore_54 (by decide) ?_
                refine lv_iload_n hx hb dX7_restore_56 rfl (lv_at hl 0 rfl) ?_
                refine lv_iadd hx hb dX7_restore_57 ?_
                refine ur_eq (y := nI (115 + i2)) (nI_add 115 i2) ?_
                refine ur_iald C h 258 (by decide) (uc_258 E _) (115 + i2) (by omega) (by decide) dX7_restore_58 ?_
                refine ur_iast C h 256 (by decide) (uc_256 E) (i2) (by omega) (by decide) dX7_restore_59 (fun M_5 H locs eM_5 h => ?_)
                refine lv_iinc (v := nI (i2 + 1)) (lv' := [(1, .int (nI (i2 + 1))), (0, .ref (E.2.1 251))]) hx hb dX7_restore_60 hl (k := 0) rfl (nI_add i2 1) (by decide) rfl (fun ls hl => ?_)
                refine lv_goto (tgt := 38) hx hb dX7_restore_63 (by decide) ?_
                exact ih38  (i2 + 1) M_5 (by omega) (by omega) (by rw [eM_5, hMi2]; exact u_cpS (by omega) (by rw [u_row1, if_neg (by decide)]; try exact congrArg _ (by omega))) _ _ _ h (lv_sub hl [0, 1] rfl)
          exact lp38 _ 0 Mi (Nat.lt_succ_self _) (by omega) u_cp0 _ _ _ h (lv_sub hl [0, 1] rfl)
        · skip
          have c_2 : ¬ 115 ≤ i := fun z => c_2 ((nI_leI (a := 115) (b := i) (by omega) (by omega)).mpr z)
          refine lv_aload_n hx hb dX7_restore_18 rfl (lv_at hl 1 rfl) ?_
          refine ur_get C h 251 (by decide) (uc_251 E _) (Cn := RX7) (T := TX7) (N := 17) rfl hin7 0 (by decide) (by decide +kernel) rfl dX7_restore_19 ?_
          refine lv_iload_n hx hb dX7_restore_22 rfl (lv_at hl 0 rfl) ?_
          refine lv_aload_n hx hb dX7_restore_23 rfl (lv_at hl 1 rfl) ?_
          refine ur_get C h 251 (by decide) (uc_251 E _) (Cn := RX7) (T := TX7) (N := 17) rfl hin7 10 (by decide) (by decide +kernel) rfl dX7_restore_24 ?_
          refine lv_iload_n hx hb dX7_restore_27 rfl (lv_at hl 0 rfl) ?_
          refine ur_iald C h 258 (by decide) (uc_258 E _) (i) (by omega) (by decide) dX7_restore_28 ?_
          refine ur_iast C h 252 (by decide) (uc_252 E) (i) (by omega) (by decide) dX7_restore_29 (fun M_6 H locs eM_6 h => ?_)
          refine lv_iinc (v := nI (i + 1)) (lv' := [(1, .int (nI (i + 1))), (0, .ref (E.2.1 251))]) hx hb dX7_restore_30 hl (k := 0) rfl (nI_add i 1) (by decide) rfl (fun ls hl => ?_)
          refine lv_goto (tgt := 12) hx hb dX7_restore_33 (by decide) ?_
          exact ih12  (i + 1) M_6 (by omega) (by omega) (by rw [eM_6, hMi]; exact u_cpS (by omega) (by rw [u_row1, if_neg (by decide)]; try exact congrArg _ (by omega))) _ _ _ h (lv_sub hl [0, 1] rfl)
    exact lp12 _ 0 M (Nat.lt_succ_self _) (by omega) u_cp0 _ _ _ h (lv_sub hl [0, 1] rfl)
  · skip
    refine lv_bipush (v := (-4)) hx hb dX7_restore_7 (by decide) ?_
    exact ur_iret C h hr hlocks (by rw [if_pos (by assumption)]; exact ⟨rfl, rfl⟩) dX7_restore_9
set_option maxHeartbeats 4000000 in
set_option maxRecDepth 100000 in
theorem k_X7_passAll (l : Launch) (E : uE) (hI : uI E) (M : uM) (p s : Nat) (hp : p < 6) (hs : s < 64) (nw : Nat) (hnw : M.1 252 1 = nI nw) (hnw6 : nw ≤ 6) (ht : ¬ M.1 252 3 = 0) : Met l yX7_passAll wsX7_passAll ({ frames := 5, cells := 0, slots := 0, locals := 122 }) (va_Pc [.ref (E.2.1 251), .int (nI p), .int (nI s)] (uB E M)) (va_Qi (fun r u => M = u ∧ r = mPA M nw p s) (uP E) (uA E)) 0 0 (uA E) := by
  have hin7 : ∀ w ∈ wsX70, w ∈ wsX7_passAll := by decide +kernel
  refine u_start (cc := cX7_passAll) (maxL := 6) (ret := (some .int)) hI (by decide) rfl (Nat.le_of_ble_eq_true rfl) ?_
  intro p_ e_ s_ m_ bl_ me_ c_ C hr hlocks h ls hl
  have hx := C.1.1
  have hb := C.1.2.1
  have hown : s_.vm.findClass RX7 = some m_.cls := C.1.2.2.2.1
  have hts := C.1.2.2.2.2
  have hl : lv_has ls 6 [(0, .ref (E.2.1 251)), (1, .int (nI p)), (2, .int (nI s))] := hl
  refine lv_ldc2 (v := 1000000) hx hb hown (hts (.constantLong RX7 179 1000000) (by decide +kernel)) dX7_passAll_0 ?_
  refine lv_lstore_n (lv' := [(3, .long 1000000), (0, .ref (E.2.1 251)), (1, .int (nI p)), (2, .int (nI s))]) hx hb dX7_passAll_3 rfl hl (by decide) rfl (fun ls hl => ?_)
  refine lv_iconst (v := 0) hx hb dX7_passAll_4 (by decide) ?_
  refine lv_istore (lv' := [(5, .int 0), (3, .long 1000000), (0, .ref (E.2.1 251)), (1, .int (nI p)), (2, .int (nI s))]) hx hb dX7_passAll_5 hl (by decide) rfl (fun ls hl => ?_)
  have lp7 : ∀ (n7 : Nat) (i : Nat) (v : Int64), nw - i < n7 → i ≤ nw → v = uPA (fun w => mPassIn M p w (M.1 252 4)) (nI s) i → ∀ (H : Heap) (locs : List Loc) (ls : Array Slot), uH E M s_ H locs → lv_has ls 6 [(5, .int (nI i)), (3, .long v), (0, .ref (E.2.1 251)), (1, .int (nI p)), (2, .int (nI s))] → W p_ l e_ ({ frames := 5, cells := 0, slots := 0, locals := 122 }) s_ m_ (List.toArray [.ref (E.2.1 251), .int (nI p), .int (nI s)]) bl_ me_ c_ H locs 0 0 (MQ bl_ (va_Qi (fun r u => M = u ∧ r = mPA M nw p s) (uP E) (uA E)) (List.toArray [.ref (E.2.1 251), .int (nI p), .int (nI s)]) s_ 0 0 (uA E)) (F0 m_ 7 ls []) := by
    intro n7
    induction n7 with
    | zero => intro i v hms; exact absurd hms (Nat.not_lt_zero _)
    | succ n7 ih7 =>
      intro i v hms7 hi hv H locs ls h hl
      refine lv_iload hx hb dX7_passAll_7 (lv_at hl 0 rfl) ?_
      refine lv_aload_n hx hb dX7_passAll_9 rfl (lv_at hl 2 rfl) ?_
      refine ur_get C h 251 (by decide) (uc_251 E _) (Cn := RX7) (T := TX7) (N := 17) rfl hin7 0 (by decide) (by decide +kernel) rfl dX7_passAll_10 ?_
      refine lv_iconst (v := 1) hx hb dX7_passAll_13 (by decide) ?_
      refine ur_iald C h 252 (by decide) (uc_252 E _) (1) (by decide) (by decide) dX7_passAll_14 ?_
      refine ur_eq (y := nI nw) (hnw) ?_
      refine lv_icmp_ge (tgt := 53) hx hb dX7_passAll_15 (by decide) (fun c_1 => ?_) (fun c_1 => ?_)
      · skip
        have c_1 : nw ≤ i := (nI_leI (a := nw) (b := i) (by omega) (by omega)).mp c_1
        refine lv_lload_n hx hb dX7_passAll_53 rfl (lv_at hl 1 rfl) ?_
        refine lv_l2i (v := v.toInt32) hx hb dX7_passAll_54 rfl ?_
        exact ur_iret C h hr hlocks (⟨rfl, by rw [hv, show i = nw by omega]; rfl⟩) dX7_passAll_55
      · skip
        have c_1 : ¬ nw ≤ i := fun z => c_1 ((nI_leI (a := nw) (b := i) (by omega) (by omega)).mpr z)
        refine lv_iload_n hx hb dX7_passAll_18 rfl (lv_at hl 4 rfl) ?_
        refine lv_iload hx hb dX7_passAll_19 (lv_at hl 0 rfl) ?_
        refine lv_ishr hx hb dX7_passAll_21 ?_
        refine lv_iconst (v := 1) hx hb dX7_passAll_22 (by decide) ?_
        refine lv_iand hx hb dX7_passAll_23 ?_
        refine lv_iconst (v := 1) hx hb dX7_passAll_24 (by decide) ?_
        refine lv_icmp_ne (tgt := 45) hx hb dX7_passAll_25 (by decide) (fun c_2 => ?_) (fun c_2 => ?_)
        · skip
          refine lv_lload_n hx hb dX7_passAll_45 rfl (lv_at hl 1 rfl) ?_
          refine lv_lstore_n (lv' := [(3, .long v), (5, .int (nI i)), (0, .ref (E.2.1 251)), (1, .int (nI p)), (2, .int (nI s))]) hx hb dX7_passAll_46 rfl hl (by decide) rfl (fun ls hl => ?_)
          refine lv_iinc (v := nI (i + 1)) (lv' := [(5, .int (nI (i + 1))), (3, .long v), (0, .ref (E.2.1 251)), (1, .int (nI p)), (2, .int (nI s))]) hx hb dX7_passAll_47 hl (k := 1) rfl (nI_add i 1) (by decide) rfl (fun ls hl => ?_)
          refine lv_goto (tgt := 7) hx hb dX7_passAll_50 (by decide) ?_
          exact ih7  (i + 1) v (by omega) (by omega) (by first | rfl | (simp [uPA, ubit, hv, c_1, c_2]; done)) _ _ _ h (lv_sub hl [0, 1, 2, 3, 4] rfl)
        · skip
          refine lv_lload_n hx hb dX7_passAll_28 rfl (lv_at hl 1 rfl) ?_
          refine lv_aload_n hx hb dX7_passAll_29 rfl (lv_at hl 2 rfl) ?_
          refine lv_iload_n hx hb dX7_passAll_30 rfl (lv_at hl 3 rfl) ?_
          refine lv_iload hx hb dX7_passAll_31 (lv_at hl 0 rfl) ?_
          refine ur_callVi C h (k := 251) (As := [.int (nI p), .int (nI i)]) (rest := [.long v]) (k_X7_passNow l E hI M p i (by omega) (by omega) ht) (cwV 2 hts gX7_passAll_X7_passNow rfl rfl rfl (by decide +kernel) ⟨Nat.le_of_ble_eq_true rfl, Nat.le_of_ble_eq_true rfl⟩) (by decide) (uc_251 E _) (T := TX7) (N := 17) rfl rfl hl.1 rfl (Nat.le_of_ble_eq_true rfl) dX7_passAll_33 (fun r_3 M_4 H locs hw_4 h => ?_)
          obtain ⟨hu, er_3⟩ := hw_4
          subst hu
          refine ur_eq (y := mPassIn M p i (M.1 252 4)) er_3 ?_
          refine lv_i2l (v := (mPassIn M p i (M.1 252 4)).toInt64) hx hb dX7_passAll_36 rfl ?_
          refine lv_lmul hx hb dX7_passAll_37 ?_
          refine lv_ldc2 (v := 1000000) hx hb hown (hts (.constantLong RX7 179 1000000) (by decide +kernel)) dX7_passAll_38 ?_
          refine lv_ldiv hx hb dX7_passAll_41 (by decide) ?_
          refine lv_goto (tgt := 46) hx hb dX7_passAll_42 (by decide) ?_
          refine lv_topl (fun v_5 ev_5 => ?_)
          refine lv_lstore_n (lv' := [(3, .long v_5), (5, .int (nI i)), (0, .ref (E.2.1 251)), (1, .int (nI p)), (2, .int (nI s))]) hx hb dX7_passAll_46 rfl hl (by decide) rfl (fun ls hl => ?_)
          refine lv_iinc (v := nI (i + 1)) (lv' := [(5, .int (nI (i + 1))), (3, .long v_5), (0, .ref (E.2.1 251)), (1, .int (nI p)), (2, .int (nI s))]) hx hb dX7_passAll_47 hl (k := 1) rfl (nI_add i 1) (by decide) rfl (fun ls hl => ?_)
          refine lv_goto (tgt := 7) hx hb dX7_passAll_50 (by decide) ?_
          exact ih7  (i + 1) v_5 (by omega) (by omega) (by first | rfl | (subst ev_5; simp [uPA, ubit, hv, c_1, c_2]; done)) _ _ _ h (lv_sub hl [0, 1, 2, 3, 4] rfl)
  exact lp7 _ 0 1000000 (Nat.lt_succ_self _) (by omega) (by first | rfl | (simp [uPA, ubit, hv, ]; done)) _ _ _ h (lv_sub hl [0, 1, 2, 3, 4] rfl)
set_option maxHeartbeats 4000000 in
set_option maxRecDepth 100000 in
theorem k_X7_isSheet (l : Launch) (E : uE) (hI : uI E) (M : uM) (x0 : Int32) : Met l yX7_isSheet wsX7_isSheet ({ frames := 1, cells := 0, slots := 0, locals := 25 }) (va_Pc [.int x0] (uB E M)) (va_Qi (fun r u => M = u ∧ r = if 0 ≤ x0.toInt ∧ x0.toInt ≤ 3 then 1 else 0) (uP E) (uA E)) 0 0 (uA E) := by
  refine u_start (cc := cX7_isSheet) (maxL := 1) (ret := (some .boolean)) hI (by decide) rfl (Nat.le_of_ble_eq_true rfl) ?_
  intro p_ e_ s_ m_ bl_ me_ c_ C hr hlocks h ls hl
  have hx := C.1.1
  have hb := C.1.2.1
  have hown : s_.vm.findClass RX7 = some m_.cls := C.1.2.2.2.1
  have hts := C.1.2.2.2.2
  have hl : lv_has ls 1 [(0, .int x0)] := hl
  refine lv_iload_n hx hb dX7_isSheet_0 rfl (lv_at hl 0 rfl) ?_
  refine lv_i2l (v := x0.toInt64) hx hb dX7_isSheet_1 rfl ?_
  refine lv_lconst (v := 0) hx hb dX7_isSheet_2 (by decide) ?_
  refine lv_ldc2 (v := 3) hx hb hown (hts (.constantLong RX7 98 3) (by decide +kernel)) dX7_isSheet_3 ?_
  refine ur_callSi C h (As := [.long x0.toInt64, .long 0, .long 3]) (rest := []) (k_X7_in l E hI M x0.toInt64 0 3) (va_cwS 3 hts gX7_isSheet_X7_in rfl rfl rfl (by decide +kernel) ⟨Nat.le_of_ble_eq_true rfl, Nat.le_of_ble_eq_true rfl⟩) rfl hl.1 rfl (Nat.le_of_ble_eq_true rfl) dX7_isSheet_6 (fun r_1 M_2 H locs hw_2 h => ?_)
  obtain ⟨hu, er_1⟩ := hw_2
  subst hu
  have er_1 : r_1 = if 0 ≤ x0.toInt ∧ x0.toInt ≤ 3 then 1 else 0 := u_in (x := x0.toInt) (u_w _) rfl rfl er_1
  exact ur_zret C h hr (by rw [er_1]; exact uz_nar) hlocks (⟨rfl, er_1⟩) dX7_isSheet_9
set_option maxHeartbeats 4000000 in
set_option maxRecDepth 100000 in
theorem k_X7_isLane (l : Launch) (E : uE) (hI : uI E) (M : uM) (x0 : Int32) : Met l yX7_isLane wsX7_isLane ({ frames := 1, cells := 0, slots := 0, locals := 25 }) (va_Pc [.int x0] (uB E M)) (va_Qi (fun r u => M = u ∧ r = if 0 ≤ x0.toInt ∧ x0.toInt ≤ 3 then 1 else 0) (uP E) (uA E)) 0 0 (uA E) := by
  refine u_start (cc := cX7_isLane) (maxL := 1) (ret := (some .boolean)) hI (by decide) rfl (Nat.le_of_ble_eq_true rfl) ?_
  intro p_ e_ s_ m_ bl_ me_ c_ C hr hlocks h ls hl
  have hx := C.1.1
  have hb := C.1.2.1
  have hown : s_.vm.findClass RX7 = some m_.cls := C.1.2.2.2.1
  have hts := C.1.2.2.2.2
  have hl : lv_has ls 1 [(0, .int x0)] := hl
  refine lv_iload_n hx hb dX7_isLane_0 rfl (lv_at hl 0 rfl) ?_
  refine lv_i2l (v := x0.toInt64) hx hb dX7_isLane_1 rfl ?_
  refine lv_lconst (v := 0) hx hb dX7_isLane_2 (by decide) ?_
  refine lv_ldc2 (v := 3) hx hb hown (hts (.constantLong RX7 98 3) (by decide +kernel)) dX7_isLane_3 ?_
  refine ur_callSi C h (As := [.long x0.toInt64, .long 0, .long 3]) (rest := []) (k_X7_in l E hI M x0.toInt64 0 3) (va_cwS 3 hts gX7_isLane_X7_in rfl rfl rfl (by decide +kernel) ⟨Nat.le_of_ble_eq_true rfl, Nat.le_of_ble_eq_true rfl⟩) rfl hl.1 rfl (Nat.le_of_ble_eq_true rfl) dX7_isLane_6 (fun r_1 M_2 H locs hw_2 h => ?_)
  obtain ⟨hu, er_1⟩ := hw_2
  subst hu
  have er_1 : r_1 = if 0 ≤ x0.toInt ∧ x0.toInt ≤ 3 then 1 else 0 := u_in (x := x0.toInt) (u_w _) rfl rfl er_1
  exact ur_zret C h hr (by rw [er_1]; exact uz_nar) hlocks (⟨rfl, er_1⟩) dX7_isLane_9
set_option maxHeartbeats 4000000 in
set_option maxRecDepth 100000 in
theorem k_X7_why (l : Launch) (E : uE) (hI : uI E) (M : uM) (sh : Nat) (x2 x3 x4 : Int32) (hsh : sh < 4) : Met l yX7_why wsX7_why ({ frames := 0, cells := 0, slots := 0, locals := 0 }) (va_Pc [.ref (E.2.1 251), .int (nI sh), .int x2, .int x3, .int x4] (uB E M)) (va_Qi (fun r u => M = u ∧ r = mWhyS M sh x2 x3 x4) (uP E) (uA E)) 0 0 (uA E) := by
  have hin7 : ∀ w ∈ wsX70, w ∈ wsX7_why := by decide +kernel
  refine u_start (cc := cX7_why) (maxL := 5) (ret := (some .int)) hI (by decide) rfl (Nat.le_of_ble_eq_true rfl) ?_
  intro p_ e_ s_ m_ bl_ me_ c_ C hr hlocks h ls hl
  have hx := C.1.1
  have hb := C.1.2.1
  have hown : s_.vm.findClass RX7 = some m_.cls := C.1.2.2.2.1
  have hts := C.1.2.2.2.2
  have hl : lv_has ls 5 [(0, .ref (E.2.1 251)), (1, .int (nI sh)), (2, .int x2), (3, .int x3), (4, .int x4)] := hl
  refine lv_aload_n hx hb dX7_why_0 rfl (lv_at hl 0 rfl) ?_
  refine ur_get C h 251 (by decide) (uc_251 E _) (Cn := RX7) (T := TX7) (N := 17) rfl hin7 13 (by decide) (by decide +kernel) rfl dX7_why_1 ?_
  refine lv_iload_n hx hb dX7_why_4 rfl (lv_at hl 1 rfl) ?_
  refine ur_iald C h 259 (by decide) (uc_259 E _) (sh) (by omega) (by decide) dX7_why_5 ?_
  refine lv_if_ge (tgt := 12) hx hb dX7_why_6 (by decide) (fun c_1 => ?_) (fun c_1 => ?_)
  · skip
    refine lv_aload_n hx hb dX7_why_12 rfl (lv_at hl 0 rfl) ?_
    refine ur_get C h 251 (by decide) (uc_251 E _) (Cn := RX7) (T := TX7) (N := 17) rfl hin7 13 (by decide) (by decide +kernel) rfl dX7_why_13 ?_
    refine lv_iload_n hx hb dX7_why_16 rfl (lv_at hl 1 rfl) ?_
    refine ur_iald C h 259 (by decide) (uc_259 E _) (sh) (by omega) (by decide) dX7_why_17 ?_
    refine lv_iload_n hx hb dX7_why_18 rfl (lv_at hl 2 rfl) ?_
    refine lv_icmp_eq (tgt := 25) hx hb dX7_why_19 (by decide) (fun c_2 => ?_) (fun c_2 => ?_)
    · skip
      refine lv_iload_n hx hb dX7_why_25 rfl (lv_at hl 3 rfl) ?_
      refine lv_if_lt (tgt := 51) hx hb dX7_why_26 (by decide) (fun c_3 => ?_) (fun c_3 => ?_)
      · skip
        refine lv_bipush (v := (-13)) hx hb dX7_why_51 (by decide) ?_
        refine lv_goto (tgt := 57) hx hb dX7_why_53 (by decide) ?_
        exact ur_iret C h hr hlocks (⟨rfl, by unfold mWhyS; rw [if_pos c_1, if_pos c_2, if_neg (fun z => by first | exact z.1 c_3 | exact z.2.1 c_3 | exact c_3 z.2.2)]⟩) dX7_why_57
      · skip
        refine lv_iload hx hb dX7_why_29 (lv_at hl 4 rfl) ?_
        refine lv_if_lt (tgt := 51) hx hb dX7_why_31 (by decide) (fun c_4 => ?_) (fun c_4 => ?_)
        · skip
          refine lv_bipush (v := (-13)) hx hb dX7_why_51 (by decide) ?_
          refine lv_goto (tgt := 57) hx hb dX7_why_53 (by decide) ?_
          exact ur_iret C h hr hlocks (⟨rfl, by unfold mWhyS; rw [if_pos c_1, if_pos c_2, if_neg (fun z => by first | exact z.1 c_4 | exact z.2.1 c_4 | exact c_4 z.2.2)]⟩) dX7_why_57
        · skip
          refine lv_iload_n hx hb dX7_why_34 rfl (lv_at hl 3 rfl) ?_
          refine lv_i2l (v := x3.toInt64) hx hb dX7_why_35 rfl ?_
          refine lv_iload hx hb dX7_why_36 (lv_at hl 4 rfl) ?_
          refine lv_i2l (v := x4.toInt64) hx hb dX7_why_38 rfl ?_
          refine lv_ladd hx hb dX7_why_39 ?_
          refine lv_aload_n hx hb dX7_why_40 rfl (lv_at hl 0 rfl) ?_
          refine ur_get C h 251 (by decide) (uc_251 E _) (Cn := RX7) (T := TX7) (N := 17) rfl hin7 14 (by decide) (by decide +kernel) rfl dX7_why_41 ?_
          refine lv_iload_n hx hb dX7_why_44 rfl (lv_at hl 1 rfl) ?_
          refine ur_iald C h 260 (by decide) (uc_260 E _) (sh) (by omega) (by decide) dX7_why_45 ?_
          refine lv_i2l (v := (M.1 260 sh).toInt64) hx hb dX7_why_46 rfl ?_
          refine W.lcmp hx hb dX7_why_47 ?_
          refine lv_if_le (tgt := 56) hx hb dX7_why_48 (by decide) (fun c_5 => ?_) (fun c_5 => ?_)
          · skip
            have c_5 : (x3.toInt64 + x4.toInt64) ≤ ((M.1 260 sh).toInt64) := (ul_le (x3.toInt64 + x4.toInt64) ((M.1 260 sh).toInt64)).mp c_5
            refine lv_iconst (v := 0) hx hb dX7_why_56 (by decide) ?_
            exact ur_iret C h hr hlocks (⟨rfl, by unfold mWhyS; rw [if_pos c_1, if_pos c_2, if_pos ⟨c_3, c_4, c_5⟩]⟩) dX7_why_57
          · skip
            have c_5 : ¬ (x3.toInt64 + x4.toInt64) ≤ ((M.1 260 sh).toInt64) := fun z => c_5 ((ul_le (x3.toInt64 + x4.toInt64) ((M.1 260 sh).toInt64)).mpr z)
            refine lv_bipush (v := (-13)) hx hb dX7_why_51 (by decide) ?_
            refine lv_goto (tgt := 57) hx hb dX7_why_53 (by decide) ?_
            exact ur_iret C h hr hlocks (⟨rfl, by unfold mWhyS; rw [if_pos c_1, if_pos c_2, if_neg (fun z => by first | exact z.1 c_5 | exact z.2.1 c_5 | exact c_5 z.2.2)]⟩) dX7_why_57
    · skip
      refine lv_bipush (v := (-12)) hx hb dX7_why_22 (by decide) ?_
      exact ur_iret C h hr hlocks (⟨rfl, by unfold mWhyS; rw [if_pos c_1, if_neg c_2]⟩) dX7_why_24
  · skip
    refine lv_bipush (v := (-11)) hx hb dX7_why_9 (by decide) ?_
    exact ur_iret C h hr hlocks (⟨rfl, by unfold mWhyS; rw [if_neg c_1]⟩) dX7_why_11
set_option maxHeartbeats 4000000 in
set_option maxRecDepth 100000 in
theorem k_X7_cut (l : Launch) (E : uE) (hI : uI E) (M : uM) (x0 : Int32) (x1 : Int64) : Met l yX7_cut wsX7_cut ({ frames := 0, cells := 0, slots := 0, locals := 0 }) (va_Pc [.int x0, .long x1] (uB E M)) (va_Ql (fun r u => M = u ∧ r = uCut x0 x1) (uP E) (uA E)) 0 0 (uA E) := by
  refine u_start (cc := cX7_cut) (maxL := 3) (ret := (some .long)) hI (by decide) rfl (Nat.le_of_ble_eq_true rfl) ?_
  intro p_ e_ s_ m_ bl_ me_ c_ C hr hlocks h ls hl
  have hx := C.1.1
  have hb := C.1.2.1
  have hown : s_.vm.findClass RX7 = some m_.cls := C.1.2.2.2.1
  have hts := C.1.2.2.2.2
  have hl : lv_has ls 3 [(0, .int x0), (1, .long x1)] := hl
  refine lv_iload_n hx hb dX7_cut_0 rfl (lv_at hl 0 rfl) ?_
  refine lv_if_ne (tgt := 11) hx hb dX7_cut_1 (by decide) (fun c_1 => ?_) (fun c_1 => ?_)
  · skip
    refine lv_iload_n hx hb dX7_cut_11 rfl (lv_at hl 0 rfl) ?_
    refine lv_iconst (v := 1) hx hb dX7_cut_12 (by decide) ?_
    refine lv_icmp_ne (tgt := 23) hx hb dX7_cut_13 (by decide) (fun c_2 => ?_) (fun c_2 => ?_)
    · skip
      refine lv_iload_n hx hb dX7_cut_23 rfl (lv_at hl 0 rfl) ?_
      refine lv_iconst (v := 2) hx hb dX7_cut_24 (by decide) ?_
      refine lv_icmp_ne (tgt := 34) hx hb dX7_cut_25 (by decide) (fun c_3 => ?_) (fun c_3 => ?_)
      · skip
        refine lv_lload_n hx hb dX7_cut_34 rfl (lv_at hl 1 rfl) ?_
        exact ur_lret C h hr hlocks (by refine ⟨rfl, ?_⟩; simp [uCut, c_1, c_2, c_3]) dX7_cut_35
      · skip
        refine lv_lload_n hx hb dX7_cut_28 rfl (lv_at hl 1 rfl) ?_
        refine lv_l2i (v := x1.toInt32) hx hb dX7_cut_29 rfl ?_
        refine lv_i2l (v := x1.toInt32.toInt64) hx hb dX7_cut_30 rfl ?_
        refine lv_goto (tgt := 35) hx hb dX7_cut_31 (by decide) ?_
        exact ur_lret C h hr hlocks (by refine ⟨rfl, ?_⟩; simp [uCut, c_1, c_2, c_3]) dX7_cut_35
    · skip
      refine lv_lload_n hx hb dX7_cut_16 rfl (lv_at hl 1 rfl) ?_
      refine lv_l2i (v := x1.toInt32) hx hb dX7_cut_17 rfl ?_
      refine lv_i2s (v := x1.toInt32.toInt16.toInt32) hx hb dX7_cut_18 rfl ?_
      refine lv_i2l (v := x1.toInt32.toInt16.toInt32.toInt64) hx hb dX7_cut_19 rfl ?_
      refine lv_goto (tgt := 35) hx hb dX7_cut_20 (by decide) ?_
      exact ur_lret C h hr hlocks (by refine ⟨rfl, ?_⟩; simp [uCut, c_1, c_2]) dX7_cut_35
  · skip
    refine lv_lload_n hx hb dX7_cut_4 rfl (lv_at hl 1 rfl) ?_
    refine lv_l2i (v := x1.toInt32) hx hb dX7_cut_5 rfl ?_
    refine lv_i2b (v := x1.toInt32.toInt8.toInt32) hx hb dX7_cut_6 rfl ?_
    refine lv_i2l (v := x1.toInt32.toInt8.toInt32.toInt64) hx hb dX7_cut_7 rfl ?_
    refine lv_goto (tgt := 35) hx hb dX7_cut_8 (by decide) ?_
    exact ur_lret C h hr hlocks (by refine ⟨rfl, ?_⟩; simp [uCut, c_1]) dX7_cut_35
