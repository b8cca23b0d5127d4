set_option maxHeartbeats 4000000 in
set_option maxRecDepth 100000 in
theorem k_X7_heardWrong (l : Launch) (E : uE) (hI : uI E) (M : uM) (x1 : Int32) (b : Nat) (hbk : M.1 252 6 = nI b) (hb12 : b ≤ 12) (hwho : ∀ k, k < b → tn (M.1 252 (79 + 3 * k)) < 6 ∧ M.1 252 (79 + 3 * k) = nI (tn (M.1 252 (79 + 3 * k)))) : Met l yX7_heardWrong wsX7_heardWrong ({ frames := 1, cells := 0, slots := 0, locals := 25 }) (va_Pc [.ref (E.2.1 251), .int x1] (uB E M)) (va_Qi (fun r u => M = u ∧ r = if 0 ≤ x1.toInt ∧ x1.toInt ≤ 1 then (if x1 = 0 then (mHW M b).1 else (mHW M b).2.1) else -1) (uP E) (uA E)) 0 0 (uA E) := by
  have hin7 : ∀ w ∈ wsX70, w ∈ wsX7_heardWrong := by decide +kernel
  refine u_start (cc := cX7_heardWrong) (maxL := 11) (ret := (some .int)) hI (by decide) rfl (Nat.le_of_ble_eq_true rfl) ?_
  intro p_ e_ s_ m_ bl_ me_ c_ C hr hlocks h ls hl
  have hx := C.1.1
  have hb := C.1.2.1
  have hown : s_.vm.findClass RX7 = some m_.cls := C.1.2.2.2.1
  have hts := C.1.2.2.2.2
  have hl : lv_has ls 11 [(0, .ref (E.2.1 251)), (1, .int x1)] := hl
  refine lv_iload_n hx hb dX7_heardWrong_0 rfl (lv_at hl 1 rfl) ?_
  refine lv_i2l (v := x1.toInt64) hx hb dX7_heardWrong_1 rfl ?_
  refine lv_lconst (v := 0) hx hb dX7_heardWrong_2 (by decide) ?_
  refine lv_lconst (v := 1) hx hb dX7_heardWrong_3 (by decide) ?_
  refine ur_callSi C h (As := [.long x1.toInt64, .long 0, .long 1]) (rest := []) (k_X7_in l E hI M x1.toInt64 0 1) (va_cwS 3 hts gX7_heardWrong_X7_in rfl rfl rfl (by decide +kernel) ⟨Nat.le_of_ble_eq_true rfl, Nat.le_of_ble_eq_true rfl⟩) rfl hl.1 rfl (Nat.le_of_ble_eq_true rfl) dX7_heardWrong_4 (fun r_1 M_2 H locs hw_2 h => ?_)
  obtain ⟨hu, er_1⟩ := hw_2
  subst hu
  have er_1 : r_1 = if 0 ≤ x1.toInt ∧ x1.toInt ≤ 1 then 1 else 0 := u_in (x := x1.toInt) (u_w _) rfl rfl er_1
  refine lv_if_ne (tgt := 12) hx hb dX7_heardWrong_7 (by decide) (fun c_3 => ?_) (fun c_3 => ?_)
  · skip
    have c_3 : 0 ≤ x1.toInt ∧ x1.toInt ≤ 1 := uz_t er_1 c_3
    refine lv_iconst (v := 0) hx hb dX7_heardWrong_12 (by decide) ?_
    refine lv_istore_n (lv' := [(2, .int 0), (0, .ref (E.2.1 251)), (1, .int x1)]) hx hb dX7_heardWrong_13 rfl hl (by decide) rfl (fun ls hl => ?_)
    refine lv_bipush (v := (-4)) hx hb dX7_heardWrong_14 (by decide) ?_
    refine lv_istore_n (lv' := [(3, .int (-4)), (2, .int 0), (0, .ref (E.2.1 251)), (1, .int x1)]) hx hb dX7_heardWrong_16 rfl hl (by decide) rfl (fun ls hl => ?_)
    refine lv_ldc (v := 1000001) hx hb hown (hts (.constant RX7 184 1000001) (by decide +kernel)) dX7_heardWrong_17 ?_
    refine lv_istore (lv' := [(4, .int 1000001), (3, .int (-4)), (2, .int 0), (0, .ref (E.2.1 251)), (1, .int x1)]) hx hb dX7_heardWrong_19 hl (by decide) rfl (fun ls hl => ?_)
    refine lv_iconst (v := 0) hx hb dX7_heardWrong_21 (by decide) ?_
    refine lv_istore (lv' := [(5, .int 0), (4, .int 1000001), (3, .int (-4)), (2, .int 0), (0, .ref (E.2.1 251)), (1, .int x1)]) hx hb dX7_heardWrong_22 hl (by decide) rfl (fun ls hl => ?_)
    have lp24 : ∀ (n24 : Nat) (i : Nat) (va vb vd : Int32), b - i < n24 → i ≤ b → (va, vb, vd) = mHW M i → ∀ (H : Heap) (locs : List Loc) (ls : Array Slot), uH E M s_ H locs → lv_has ls 11 [(5, .int (nI i)), (4, .int vd), (3, .int vb), (2, .int va), (0, .ref (E.2.1 251)), (1, .int x1)] → W p_ l e_ ({ frames := 1, cells := 0, slots := 0, locals := 25 }) s_ m_ (List.toArray [.ref (E.2.1 251), .int x1]) bl_ me_ c_ H locs 0 0 (MQ bl_ (va_Qi (fun r u => M = u ∧ r = if 0 ≤ x1.toInt ∧ x1.toInt ≤ 1 then (if x1 = 0 then (mHW M b).1 else (mHW M b).2.1) else -1) (uP E) (uA E)) (List.toArray [.ref (E.2.1 251), .int x1]) s_ 0 0 (uA E)) (F0 m_ 24 ls []) := by
      intro n24
      induction n24 with
      | zero => intro i va vb vd hms; exact absurd hms (Nat.not_lt_zero _)
      | succ n24 ih24 =>
        intro i va vb vd hms24 hi hbl H locs ls h hl
        refine lv_iload hx hb dX7_heardWrong_24 (lv_at hl 0 rfl) ?_
        refine lv_aload_n hx hb dX7_heardWrong_26 rfl (lv_at hl 4 rfl) ?_
        refine ur_get C h 251 (by decide) (uc_251 E _) (Cn := RX7) (T := TX7) (N := 17) rfl hin7 0 (by decide) (by decide +kernel) rfl dX7_heardWrong_27 ?_
        refine lv_bipush (v := 6) hx hb dX7_heardWrong_30 (by decide) ?_
        refine ur_iald C h 252 (by decide) (uc_252 E _) (6) (by decide) (by decide) dX7_heardWrong_32 ?_
        refine ur_eq (y := nI b) (hbk) ?_
        refine lv_icmp_ge (tgt := 178) hx hb dX7_heardWrong_33 (by decide) (fun c_4 => ?_) (fun c_4 => ?_)
        · skip
          have c_4 : b ≤ i := (nI_leI (a := b) (b := i) (by omega) (by omega)).mp c_4
          refine lv_iload_n hx hb dX7_heardWrong_178 rfl (lv_at hl 5 rfl) ?_
          refine lv_if_ne (tgt := 186) hx hb dX7_heardWrong_179 (by decide) (fun c_5 => ?_) (fun c_5 => ?_)
          · skip
            refine lv_iload_n hx hb dX7_heardWrong_186 rfl (lv_at hl 2 rfl) ?_
            exact ur_iret C h hr hlocks (⟨rfl, by rw [if_pos (by assumption), if_neg c_5, ← show i = b by omega, ← hbl]⟩) dX7_heardWrong_187
          · skip
            refine lv_iload_n hx hb dX7_heardWrong_182 rfl (lv_at hl 3 rfl) ?_
            refine lv_goto (tgt := 187) hx hb dX7_heardWrong_183 (by decide) ?_
            exact ur_iret C h hr hlocks (⟨rfl, by rw [if_pos (by assumption), if_pos c_5, ← show i = b by omega, ← hbl]⟩) dX7_heardWrong_187
        · skip
          have c_4 : ¬ b ≤ i := fun z => c_4 ((nI_leI (a := b) (b := i) (by omega) (by omega)).mpr z)
          refine lv_aload_n hx hb dX7_heardWrong_36 rfl (lv_at hl 4 rfl) ?_
          refine ur_get C h 251 (by decide) (uc_251 E _) (Cn := RX7) (T := TX7) (N := 17) rfl hin7 0 (by decide) (by decide +kernel) rfl dX7_heardWrong_37 ?_
          refine lv_bipush (v := 79) hx hb dX7_heardWrong_40 (by decide) ?_
          refine lv_iconst (v := 3) hx hb dX7_heardWrong_42 (by decide) ?_
          refine lv_iload hx hb dX7_heardWrong_43 (lv_at hl 0 rfl) ?_
          refine lv_imul hx hb dX7_heardWrong_45 ?_
          refine ur_eq (y := nI (3 * i)) (pk_mul 3 i) ?_
          refine lv_iadd hx hb dX7_heardWrong_46 ?_
          refine ur_eq (y := nI (79 + 3 * i)) (nI_add 79 (3 * i)) ?_
          refine ur_iald C h 252 (by decide) (uc_252 E _) (79 + 3 * i) (by omega) (by decide) dX7_heardWrong_47 ?_
          obtain ⟨hw1, hw2⟩ := hwho i (by omega)
          refine lv_istore (lv' := [(6, .int (M.1 252 (79 + 3 * i))), (5, .int (nI i)), (4, .int vd), (3, .int vb), (2, .int va), (0, .ref (E.2.1 251)), (1, .int x1)]) hx hb dX7_heardWrong_48 hl (by decide) rfl (fun ls hl => ?_)
          refine lv_aload_n hx hb dX7_heardWrong_50 rfl (lv_at hl 5 rfl) ?_
          refine ur_get C h 251 (by decide) (uc_251 E _) (Cn := RX7) (T := TX7) (N := 17) rfl hin7 0 (by decide) (by decide +kernel) rfl dX7_heardWrong_51 ?_
          refine lv_bipush (v := 79) hx hb dX7_heardWrong_54 (by decide) ?_
          refine lv_iconst (v := 3) hx hb dX7_heardWrong_56 (by decide) ?_
          refine lv_iload hx hb dX7_heardWrong_57 (lv_at hl 1 rfl) ?_
          refine lv_imul hx hb dX7_heardWrong_59 ?_
          refine ur_eq (y := nI (3 * i)) (pk_mul 3 i) ?_
          refine lv_iadd hx hb dX7_heardWrong_60 ?_
          refine ur_eq (y := nI (79 + 3 * i)) (nI_add 79 (3 * i)) ?_
          refine lv_iconst (v := 1) hx hb dX7_heardWrong_61 (by decide) ?_
          refine lv_iadd hx hb dX7_heardWrong_62 ?_
          refine ur_eq (y := nI (79 + 3 * i + 1)) (nI_add (79 + 3 * i) 1) ?_
          refine ur_iald C h 252 (by decide) (uc_252 E _) (79 + 3 * i + 1) (by omega) (by decide) dX7_heardWrong_63 ?_
          refine lv_istore (lv' := [(7, .int (M.1 252 (79 + 3 * i + 1))), (6, .int (M.1 252 (79 + 3 * i))), (5, .int (nI i)), (4, .int vd), (3, .int vb), (2, .int va), (0, .ref (E.2.1 251)), (1, .int x1)]) hx hb dX7_heardWrong_64 hl (by decide) rfl (fun ls hl => ?_)
          refine lv_aload_n hx hb dX7_heardWrong_66 rfl (lv_at hl 6 rfl) ?_
          refine ur_get C h 251 (by decide) (uc_251 E _) (Cn := RX7) (T := TX7) (N := 17) rfl hin7 0 (by decide) (by decide +kernel) rfl dX7_heardWrong_67 ?_
          refine lv_bipush (v := 79) hx hb dX7_heardWrong_70 (by decide) ?_
          refine lv_iconst (v := 3) hx hb dX7_heardWrong_72 (by decide) ?_
          refine lv_iload hx hb dX7_heardWrong_73 (lv_at hl 2 rfl) ?_
          refine lv_imul hx hb dX7_heardWrong_75 ?_
          refine ur_eq (y := nI (3 * i)) (pk_mul 3 i) ?_
          refine lv_iadd hx hb dX7_heardWrong_76 ?_
          refine ur_eq (y := nI (79 + 3 * i)) (nI_add 79 (3 * i)) ?_
          refine lv_iconst (v := 2) hx hb dX7_heardWrong_77 (by decide) ?_
          refine lv_iadd hx hb dX7_heardWrong_78 ?_
          refine ur_eq (y := nI (79 + 3 * i + 2)) (nI_add (79 + 3 * i) 2) ?_
          refine ur_iald C h 252 (by decide) (uc_252 E _) (79 + 3 * i + 2) (by omega) (by decide) dX7_heardWrong_79 ?_
          refine lv_istore (lv' := [(8, .int (M.1 252 (79 + 3 * i + 2))), (7, .int (M.1 252 (79 + 3 * i + 1))), (6, .int (M.1 252 (79 + 3 * i))), (5, .int (nI i)), (4, .int vd), (3, .int vb), (2, .int va), (0, .ref (E.2.1 251)), (1, .int x1)]) hx hb dX7_heardWrong_80 hl (by decide) rfl (fun ls hl => ?_)
          refine lv_aload_n hx hb dX7_heardWrong_82 rfl (lv_at hl 7 rfl) ?_
          refine lv_iload hx hb dX7_heardWrong_83 (lv_at hl 2 rfl) ?_
          refine ur_eq (y := nI (tn (M.1 252 (79 + 3 * i)))) hw2 ?_
          refine lv_iconst (v := 1) hx hb dX7_heardWrong_85 (by decide) ?_
          refine ur_callVi C h (k := 251) (As := [.int (nI (tn (M.1 252 (79 + 3 * i)))), .int 1]) (rest := []) (k_X7_told l E hI M (tn (M.1 252 (79 + 3 * i))) 1 (by omega)) (cwV 2 hts gX7_heardWrong_X7_told rfl rfl rfl (by decide +kernel) ⟨Nat.le_of_ble_eq_true rfl, Nat.le_of_ble_eq_true rfl⟩) (by decide) (uc_251 E _) (T := TX7) (N := 17) rfl rfl hl.1 rfl (Nat.le_of_ble_eq_true rfl) dX7_heardWrong_86 (fun r_6 M_7 H locs hw_7 h => ?_)
          obtain ⟨hu, er_6⟩ := hw_7
          subst hu
          refine ur_eq (y := M.1 252 (7 + 10 * (tn (M.1 252 (79 + 3 * i))) + 1)) er_6 ?_
          refine lv_iload hx hb dX7_heardWrong_89 (lv_at hl 0 rfl) ?_
          refine lv_icmp_ne (tgt := 98) hx hb dX7_heardWrong_91 (by decide) (fun c_8 => ?_) (fun c_8 => ?_)
          · skip
            refine lv_iconst (v := 0) hx hb dX7_heardWrong_98 (by decide) ?_
            refine lv_istore (lv' := [(9, .int 0), (8, .int (M.1 252 (79 + 3 * i + 2))), (7, .int (M.1 252 (79 + 3 * i + 1))), (6, .int (M.1 252 (79 + 3 * i))), (5, .int (nI i)), (4, .int vd), (3, .int vb), (2, .int va), (0, .ref (E.2.1 251)), (1, .int x1)]) hx hb dX7_heardWrong_99 hl (by decide) rfl (fun ls hl => ?_)
            refine lv_iload hx hb dX7_heardWrong_101 (lv_at hl 1 rfl) ?_
            refine lv_iconst (v := 1) hx hb dX7_heardWrong_103 (by decide) ?_
            refine lv_icmp_ne (tgt := 112) hx hb dX7_heardWrong_104 (by decide) (fun c_9 => ?_) (fun c_9 => ?_)
            · skip
              refine lv_ldc (v := 1000000) hx hb hown (hts (.constant RX7 59 1000000) (by decide +kernel)) dX7_heardWrong_112 ?_
              refine lv_iload hx hb dX7_heardWrong_114 (lv_at hl 2 rfl) ?_
              refine lv_isub hx hb dX7_heardWrong_116 ?_
              refine lv_topi (fun v_10 ev_10 => ?_)
              refine lv_istore (lv' := [(10, .int v_10), (9, .int 0), (8, .int (M.1 252 (79 + 3 * i + 2))), (7, .int (M.1 252 (79 + 3 * i + 1))), (6, .int (M.1 252 (79 + 3 * i))), (5, .int (nI i)), (4, .int vd), (3, .int vb), (2, .int va), (0, .ref (E.2.1 251)), (1, .int x1)]) hx hb dX7_heardWrong_117 hl (by decide) rfl (fun ls hl => ?_)
              refine lv_iload_n hx hb dX7_heardWrong_119 rfl (lv_at hl 8 rfl) ?_
              refine lv_iload hx hb dX7_heardWrong_120 (lv_at hl 1 rfl) ?_
              refine lv_if_eq (tgt := 129) hx hb dX7_heardWrong_122 (by decide) (fun c_11 => ?_) (fun z => absurd z (by decide))
              refine lv_iconst (v := 0) hx hb dX7_heardWrong_129 (by decide) ?_
              refine lv_iadd hx hb dX7_heardWrong_130 ?_
              refine ur_eq (y := va) (Int32.add_zero _) ?_
              refine lv_istore_n (lv' := [(2, .int va), (10, .int v_10), (9, .int 0), (8, .int (M.1 252 (79 + 3 * i + 2))), (7, .int (M.1 252 (79 + 3 * i + 1))), (6, .int (M.1 252 (79 + 3 * i))), (5, .int (nI i)), (4, .int vd), (3, .int vb), (0, .ref (E.2.1 251)), (1, .int x1)]) hx hb dX7_heardWrong_131 rfl hl (by decide) rfl (fun ls hl => ?_)
              refine lv_iload hx hb dX7_heardWrong_132 (lv_at hl 2 rfl) ?_
              refine lv_if_eq (tgt := 149) hx hb dX7_heardWrong_134 (by decide) (fun c_12 => ?_) (fun z => absurd z (by decide))
              refine lv_iload_n hx hb dX7_heardWrong_149 rfl (lv_at hl 8 rfl) ?_
              refine lv_istore_n (lv' := [(3, .int vb), (2, .int va), (10, .int v_10), (9, .int 0), (8, .int (M.1 252 (79 + 3 * i + 2))), (7, .int (M.1 252 (79 + 3 * i + 1))), (6, .int (M.1 252 (79 + 3 * i))), (5, .int (nI i)), (4, .int vd), (0, .ref (E.2.1 251)), (1, .int x1)]) hx hb dX7_heardWrong_150 rfl hl (by decide) rfl (fun ls hl => ?_)
              refine lv_iload hx hb dX7_heardWrong_151 (lv_at hl 3 rfl) ?_
              refine lv_if_eq (tgt := 168) hx hb dX7_heardWrong_153 (by decide) (fun c_13 => ?_) (fun z => absurd z (by decide))
              refine lv_iload hx hb dX7_heardWrong_168 (lv_at hl 8 rfl) ?_
              refine lv_istore (lv' := [(4, .int vd), (3, .int vb), (2, .int va), (10, .int v_10), (9, .int 0), (8, .int (M.1 252 (79 + 3 * i + 2))), (7, .int (M.1 252 (79 + 3 * i + 1))), (6, .int (M.1 252 (79 + 3 * i))), (5, .int (nI i)), (0, .ref (E.2.1 251)), (1, .int x1)]) hx hb dX7_heardWrong_170 hl (by decide) rfl (fun ls hl => ?_)
              refine lv_iinc (v := nI (i + 1)) (lv' := [(5, .int (nI (i + 1))), (4, .int vd), (3, .int vb), (2, .int va), (10, .int v_10), (9, .int 0), (8, .int (M.1 252 (79 + 3 * i + 2))), (7, .int (M.1 252 (79 + 3 * i + 1))), (6, .int (M.1 252 (79 + 3 * i))), (0, .ref (E.2.1 251)), (1, .int x1)]) hx hb dX7_heardWrong_172 hl (k := 8) rfl (nI_add i 1) (by decide) rfl (fun ls hl => ?_)
              refine lv_goto (tgt := 24) hx hb dX7_heardWrong_175 (by decide) ?_
              exact ih24  (i + 1) va vb vd (by omega) (by omega) (by rw [mHW_step, if_neg (by rw [mHWf, decide_eq_true_iff]; exact c_8)]; exact hbl) _ _ _ h (lv_sub hl [0, 1, 2, 3, 9, 10] rfl)
            · skip
              refine lv_iload hx hb dX7_heardWrong_107 (lv_at hl 2 rfl) ?_
              refine lv_goto (tgt := 117) hx hb dX7_heardWrong_109 (by decide) ?_
              refine lv_istore (lv' := [(10, .int (M.1 252 (79 + 3 * i + 1))), (9, .int 0), (8, .int (M.1 252 (79 + 3 * i + 2))), (7, .int (M.1 252 (79 + 3 * i + 1))), (6, .int (M.1 252 (79 + 3 * i))), (5, .int (nI i)), (4, .int vd), (3, .int vb), (2, .int va), (0, .ref (E.2.1 251)), (1, .int x1)]) hx hb dX7_heardWrong_117 hl (by decide) rfl (fun ls hl => ?_)
              refine lv_iload_n hx hb dX7_heardWrong_119 rfl (lv_at hl 8 rfl) ?_
              refine lv_iload hx hb dX7_heardWrong_120 (lv_at hl 1 rfl) ?_
              refine lv_if_eq (tgt := 129) hx hb dX7_heardWrong_122 (by decide) (fun c_14 => ?_) (fun z => absurd z (by decide))
              refine lv_iconst (v := 0) hx hb dX7_heardWrong_129 (by decide) ?_
              refine lv_iadd hx hb dX7_heardWrong_130 ?_
              refine ur_eq (y := va) (Int32.add_zero _) ?_
              refine lv_istore_n (lv' := [(2, .int va), (10, .int (M.1 252 (79 + 3 * i + 1))), (9, .int 0), (8, .int (M.1 252 (79 + 3 * i + 2))), (7, .int (M.1 252 (79 + 3 * i + 1))), (6, .int (M.1 252 (79 + 3 * i))), (5, .int (nI i)), (4, .int vd), (3, .int vb), (0, .ref (E.2.1 251)), (1, .int x1)]) hx hb dX7_heardWrong_131 rfl hl (by decide) rfl (fun ls hl => ?_)
              refine lv_iload hx hb dX7_heardWrong_132 (lv_at hl 2 rfl) ?_
              refine lv_if_eq (tgt := 149) hx hb dX7_heardWrong_134 (by decide) (fun c_15 => ?_) (fun z => absurd z (by decide))
              refine lv_iload_n hx hb dX7_heardWrong_149 rfl (lv_at hl 8 rfl) ?_
              refine lv_istore_n (lv' := [(3, .int vb), (2, .int va), (10, .int (M.1 252 (79 + 3 * i + 1))), (9, .int 0), (8, .int (M.1 252 (79 + 3 * i + 2))), (7, .int (M.1 252 (79 + 3 * i + 1))), (6, .int (M.1 252 (79 + 3 * i))), (5, .int (nI i)), (4, .int vd), (0, .ref (E.2.1 251)), (1, .int x1)]) hx hb dX7_heardWrong_150 rfl hl (by decide) rfl (fun ls hl => ?_)
              refine lv_iload hx hb dX7_heardWrong_151 (lv_at hl 3 rfl) ?_
              refine lv_if_eq (tgt := 168) hx hb dX7_heardWrong_153 (by decide) (fun c_16 => ?_) (fun z => absurd z (by decide))
              refine lv_iload hx hb dX7_heardWrong_168 (lv_at hl 8 rfl) ?_
              refine lv_istore (lv' := [(4, .int vd), (3, .int vb), (2, .int va), (10, .int (M.1 252 (79 + 3 * i + 1))), (9, .int 0), (8, .int (M.1 252 (79 + 3 * i + 2))), (7, .int (M.1 252 (79 + 3 * i + 1))), (6, .int (M.1 252 (79 + 3 * i))), (5, .int (nI i)), (0, .ref (E.2.1 251)), (1, .int x1)]) hx hb dX7_heardWrong_170 hl (by decide) rfl (fun ls hl => ?_)
              refine lv_iinc (v := nI (i + 1)) (lv' := [(5, .int (nI (i + 1))), (4, .int vd), (3, .int vb), (2, .int va), (10, .int (M.1 252 (79 + 3 * i + 1))), (9, .int 0), (8, .int (M.1 252 (79 + 3 * i + 2))), (7, .int (M.1 252 (79 + 3 * i + 1))), (6, .int (M.1 252 (79 + 3 * i))), (0, .ref (E.2.1 251)), (1, .int x1)]) hx hb dX7_heardWrong_172 hl (k := 8) rfl (nI_add i 1) (by decide) rfl (fun ls hl => ?_)
              refine lv_goto (tgt := 24) hx hb dX7_heardWrong_175 (by decide) ?_
              exact ih24  (i + 1) va vb vd (by omega) (by omega) (by rw [mHW_step, if_neg (by rw [mHWf, decide_eq_true_iff]; exact c_8)]; exact hbl) _ _ _ h (lv_sub hl [0, 1, 2, 3, 9, 10] rfl)
          · skip
            refine lv_iconst (v := 1) hx hb dX7_heardWrong_94 (by decide) ?_
            refine lv_goto (tgt := 99) hx hb dX7_heardWrong_95 (by decide) ?_
            refine lv_istore (lv' := [(9, .int 1), (8, .int (M.1 252 (79 + 3 * i + 2))), (7, .int (M.1 252 (79 + 3 * i + 1))), (6, .int (M.1 252 (79 + 3 * i))), (5, .int (nI i)), (4, .int vd), (3, .int vb), (2, .int va), (0, .ref (E.2.1 251)), (1, .int x1)]) hx hb dX7_heardWrong_99 hl (by decide) rfl (fun ls hl => ?_)
            refine lv_iload hx hb dX7_heardWrong_101 (lv_at hl 1 rfl) ?_
            refine lv_iconst (v := 1) hx hb dX7_heardWrong_103 (by decide) ?_
            refine lv_icmp_ne (tgt := 112) hx hb dX7_heardWrong_104 (by decide) (fun c_17 => ?_) (fun c_17 => ?_)
            · skip
              refine lv_ldc (v := 1000000) hx hb hown (hts (.constant RX7 59 1000000) (by decide +kernel)) dX7_heardWrong_112 ?_
              refine lv_iload hx hb dX7_heardWrong_114 (lv_at hl 2 rfl) ?_
              refine lv_isub hx hb dX7_heardWrong_116 ?_
              refine lv_topi (fun v_18 ev_18 => ?_)
              refine lv_istore (lv' := [(10, .int v_18), (9, .int 1), (8, .int (M.1 252 (79 + 3 * i + 2))), (7, .int (M.1 252 (79 + 3 * i + 1))), (6, .int (M.1 252 (79 + 3 * i))), (5, .int (nI i)), (4, .int vd), (3, .int vb), (2, .int va), (0, .ref (E.2.1 251)), (1, .int x1)]) hx hb dX7_heardWrong_117 hl (by decide) rfl (fun ls hl => ?_)
              refine lv_iload_n hx hb dX7_heardWrong_119 rfl (lv_at hl 8 rfl) ?_
              refine lv_iload hx hb dX7_heardWrong_120 (lv_at hl 1 rfl) ?_
              refine lv_if_eq (tgt := 129) hx hb dX7_heardWrong_122 (by decide) (fun z => absurd z (by decide)) (fun c_19 => ?_)
              refine lv_iconst (v := 1) hx hb dX7_heardWrong_125 (by decide) ?_
              refine lv_goto (tgt := 130) hx hb dX7_heardWrong_126 (by decide) ?_
              refine lv_iadd hx hb dX7_heardWrong_130 ?_
              refine lv_istore_n (lv' := [(2, .int (va + 1)), (10, .int v_18), (9, .int 1), (8, .int (M.1 252 (79 + 3 * i + 2))), (7, .int (M.1 252 (79 + 3 * i + 1))), (6, .int (M.1 252 (79 + 3 * i))), (5, .int (nI i)), (4, .int vd), (3, .int vb), (0, .ref (E.2.1 251)), (1, .int x1)]) hx hb dX7_heardWrong_131 rfl hl (by decide) rfl (fun ls hl => ?_)
              refine lv_iload hx hb dX7_heardWrong_132 (lv_at hl 2 rfl) ?_
              refine lv_if_eq (tgt := 149) hx hb dX7_heardWrong_134 (by decide) (fun z => absurd z (by decide)) (fun c_20 => ?_)
              refine lv_iload hx hb dX7_heardWrong_137 (lv_at hl 1 rfl) ?_
              refine lv_iload hx hb dX7_heardWrong_139 (lv_at hl 7 rfl) ?_
              refine lv_icmp_ge (tgt := 149) hx hb dX7_heardWrong_141 (by decide) (fun c_21 => ?_) (fun c_21 => ?_)
              · skip
                refine lv_iload_n hx hb dX7_heardWrong_149 rfl (lv_at hl 8 rfl) ?_
                refine lv_istore_n (lv' := [(3, .int vb), (2, .int (va + 1)), (10, .int v_18), (9, .int 1), (8, .int (M.1 252 (79 + 3 * i + 2))), (7, .int (M.1 252 (79 + 3 * i + 1))), (6, .int (M.1 252 (79 + 3 * i))), (5, .int (nI i)), (4, .int vd), (0, .ref (E.2.1 251)), (1, .int x1)]) hx hb dX7_heardWrong_150 rfl hl (by decide) rfl (fun ls hl => ?_)
                refine lv_iload hx hb dX7_heardWrong_151 (lv_at hl 3 rfl) ?_
                refine lv_if_eq (tgt := 168) hx hb dX7_heardWrong_153 (by decide) (fun z => absurd z (by decide)) (fun c_22 => ?_)
                refine lv_iload hx hb dX7_heardWrong_156 (lv_at hl 2 rfl) ?_
                refine lv_iload hx hb dX7_heardWrong_158 (lv_at hl 8 rfl) ?_
                refine lv_icmp_ge (tgt := 168) hx hb dX7_heardWrong_160 (by decide) (fun c_23 => ?_) (fun c_23 => ?_)
                · skip
                  refine lv_iload hx hb dX7_heardWrong_168 (lv_at hl 8 rfl) ?_
                  refine lv_istore (lv' := [(4, .int vd), (3, .int vb), (2, .int (va + 1)), (10, .int v_18), (9, .int 1), (8, .int (M.1 252 (79 + 3 * i + 2))), (7, .int (M.1 252 (79 + 3 * i + 1))), (6, .int (M.1 252 (79 + 3 * i))), (5, .int (nI i)), (0, .ref (E.2.1 251)), (1, .int x1)]) hx hb dX7_heardWrong_170 hl (by decide) rfl (fun ls hl => ?_)
                  refine lv_iinc (v := nI (i + 1)) (lv' := [(5, .int (nI (i + 1))), (4, .int vd), (3, .int vb), (2, .int (va + 1)), (10, .int v_18), (9, .int 1), (8, .int (M.1 252 (79 + 3 * i + 2))), (7, .int (M.1 252 (79 + 3 * i + 1))), (6, .int (M.1 252 (79 + 3 * i))), (0, .ref (E.2.1 251)), (1, .int x1)]) hx hb dX7_heardWrong_172 hl (k := 8) rfl (nI_add i 1) (by decide) rfl (fun ls hl => ?_)
                  refine lv_goto (tgt := 24) hx hb dX7_heardWrong_175 (by decide) ?_
                  exact ih24  (i + 1) (va + 1) vb vd (by omega) (by omega) (by have hl0 := (show mHWl M i = 1000000 - M.1 252 (79 + 3 * i + 1) by unfold mHWl; rw [if_neg c_17]); subst ev_18; rw [mHW_step, if_pos (show mHWf M i = true from decide_eq_true c_8), ← hbl]; dsimp only; rw [show mHWl M i = _ from hl0, if_pos c_21]) _ _ _ h (lv_sub hl [0, 1, 2, 3, 9, 10] rfl)
                · skip
                  refine lv_iload hx hb dX7_heardWrong_163 (lv_at hl 2 rfl) ?_
                  refine lv_goto (tgt := 170) hx hb dX7_heardWrong_165 (by decide) ?_
                  refine lv_istore (lv' := [(4, .int v_18), (3, .int vb), (2, .int (va + 1)), (10, .int v_18), (9, .int 1), (8, .int (M.1 252 (79 + 3 * i + 2))), (7, .int (M.1 252 (79 + 3 * i + 1))), (6, .int (M.1 252 (79 + 3 * i))), (5, .int (nI i)), (0, .ref (E.2.1 251)), (1, .int x1)]) hx hb dX7_heardWrong_170 hl (by decide) rfl (fun ls hl => ?_)
                  refine lv_iinc (v := nI (i + 1)) (lv' := [(5, .int (nI (i + 1))), (4, .int v_18), (3, .int vb), (2, .int (va + 1)), (10, .int v_18), (9, .int 1), (8, .int (M.1 252 (79 + 3 * i + 2))), (7, .int (M.1 252 (79 + 3 * i + 1))), (6, .int (M.1 252 (79 + 3 * i))), (0, .ref (E.2.1 251)), (1, .int x1)]) hx hb dX7_heardWrong_172 hl (k := 8) rfl (nI_add i 1) (by decide) rfl (fun ls hl => ?_)
                  refine lv_goto (tgt := 24) hx hb dX7_heardWrong_175 (by decide) ?_
                  exact ih24  (i + 1) (va + 1) vb v_18 (by omega) (by omega) (by exact absurd c_21 c_23) _ _ _ h (lv_sub hl [0, 1, 2, 3, 9, 10] rfl)
              · skip
                refine lv_iload hx hb dX7_heardWrong_144 (lv_at hl 5 rfl) ?_
                refine lv_goto (tgt := 150) hx hb dX7_heardWrong_146 (by decide) ?_
                refine lv_istore_n (lv' := [(3, .int (M.1 252 (79 + 3 * i))), (2, .int (va + 1)), (10, .int v_18), (9, .int 1), (8, .int (M.1 252 (79 + 3 * i + 2))), (7, .int (M.1 252 (79 + 3 * i + 1))), (6, .int (M.1 252 (79 + 3 * i))), (5, .int (nI i)), (4, .int vd), (0, .ref (E.2.1 251)), (1, .int x1)]) hx hb dX7_heardWrong_150 rfl hl (by decide) rfl (fun ls hl => ?_)
                refine lv_iload hx hb dX7_heardWrong_151 (lv_at hl 3 rfl) ?_
                refine lv_if_eq (tgt := 168) hx hb dX7_heardWrong_153 (by decide) (fun z => absurd z (by decide)) (fun c_24 => ?_)
                refine lv_iload hx hb dX7_heardWrong_156 (lv_at hl 2 rfl) ?_
                refine lv_iload hx hb dX7_heardWrong_158 (lv_at hl 8 rfl) ?_
                refine lv_icmp_ge (tgt := 168) hx hb dX7_heardWrong_160 (by decide) (fun c_25 => ?_) (fun c_25 => ?_)
                · skip
                  refine lv_iload hx hb dX7_heardWrong_168 (lv_at hl 8 rfl) ?_
                  refine lv_istore (lv' := [(4, .int vd), (3, .int (M.1 252 (79 + 3 * i))), (2, .int (va + 1)), (10, .int v_18), (9, .int 1), (8, .int (M.1 252 (79 + 3 * i + 2))), (7, .int (M.1 252 (79 + 3 * i + 1))), (6, .int (M.1 252 (79 + 3 * i))), (5, .int (nI i)), (0, .ref (E.2.1 251)), (1, .int x1)]) hx hb dX7_heardWrong_170 hl (by decide) rfl (fun ls hl => ?_)
                  refine lv_iinc (v := nI (i + 1)) (lv' := [(5, .int (nI (i + 1))), (4, .int vd), (3, .int (M.1 252 (79 + 3 * i))), (2, .int (va + 1)), (10, .int v_18), (9, .int 1), (8, .int (M.1 252 (79 + 3 * i + 2))), (7, .int (M.1 252 (79 + 3 * i + 1))), (6, .int (M.1 252 (79 + 3 * i))), (0, .ref (E.2.1 251)), (1, .int x1)]) hx hb dX7_heardWrong_172 hl (k := 8) rfl (nI_add i 1) (by decide) rfl (fun ls hl => ?_)
                  refine lv_goto (tgt := 24) hx hb dX7_heardWrong_175 (by decide) ?_
                  exact ih24  (i + 1) (va + 1) (M.1 252 (79 + 3 * i)) vd (by omega) (by omega) (by exact absurd c_25 c_21) _ _ _ h (lv_sub hl [0, 1, 2, 3, 9, 10] rfl)
                · skip
                  refine lv_iload hx hb dX7_heardWrong_163 (lv_at hl 2 rfl) ?_
                  refine lv_goto (tgt := 170) hx hb dX7_heardWrong_165 (by decide) ?_
                  refine lv_istore (lv' := [(4, .int v_18), (3, .int (M.1 252 (79 + 3 * i))), (2, .int (va + 1)), (10, .int v_18), (9, .int 1), (8, .int (M.1 252 (79 + 3 * i + 2))), (7, .int (M.1 252 (79 + 3 * i + 1))), (6, .int (M.1 252 (79 + 3 * i))), (5, .int (nI i)), (0, .ref (E.2.1 251)), (1, .int x1)]) hx hb dX7_heardWrong_170 hl (by decide) rfl (fun ls hl => ?_)
                  refine lv_iinc (v := nI (i + 1)) (lv' := [(5, .int (nI (i + 1))), (4, .int v_18), (3, .int (M.1 252 (79 + 3 * i))), (2, .int (va + 1)), (10, .int v_18), (9, .int 1), (8, .int (M.1 252 (79 + 3 * i + 2))), (7, .int (M.1 252 (79 + 3 * i + 1))), (6, .int (M.1 252 (79 + 3 * i))), (0, .ref (E.2.1 251)), (1, .int x1)]) hx hb dX7_heardWrong_172 hl (k := 8) rfl (nI_add i 1) (by decide) rfl (fun ls hl => ?_)
                  refine lv_goto (tgt := 24) hx hb dX7_heardWrong_175 (by decide) ?_
                  exact ih24  (i + 1) (va + 1) (M.1 252 (79 + 3 * i)) v_18 (by omega) (by omega) (by have hl0 := (show mHWl M i = 1000000 - M.1 252 (79 + 3 * i + 1) by unfold mHWl; rw [if_neg c_17]); subst ev_18; rw [mHW_step, if_pos (show mHWf M i = true from decide_eq_true c_8), ← hbl]; dsimp only; rw [show mHWl M i = _ from hl0, if_neg c_21]) _ _ _ h (lv_sub hl [0, 1, 2, 3, 9, 10] rfl)
            · skip
              refine lv_iload hx hb dX7_heardWrong_107 (lv_at hl 2 rfl) ?_
              refine lv_goto (tgt := 117) hx hb dX7_heardWrong_109 (by decide) ?_
              refine lv_istore (lv' := [(10, .int (M.1 252 (79 + 3 * i + 1))), (9, .int 1), (8, .int (M.1 252 (79 + 3 * i + 2))), (7, .int (M.1 252 (79 + 3 * i + 1))), (6, .int (M.1 252 (79 + 3 * i))), (5, .int (nI i)), (4, .int vd), (3, .int vb), (2, .int va), (0, .ref (E.2.1 251)), (1, .int x1)]) hx hb dX7_heardWrong_117 hl (by decide) rfl (fun ls hl => ?_)
              refine lv_iload_n hx hb dX7_heardWrong_119 rfl (lv_at hl 8 rfl) ?_
              refine lv_iload hx hb dX7_heardWrong_120 (lv_at hl 1 rfl) ?_
              refine lv_if_eq (tgt := 129) hx hb dX7_heardWrong_122 (by decide) (fun z => absurd z (by decide)) (fun c_26 => ?_)
              refine lv_iconst (v := 1) hx hb dX7_heardWrong_125 (by decide) ?_
              refine lv_goto (tgt := 130) hx hb dX7_heardWrong_126 (by decide) ?_
              refine lv_iadd hx hb dX7_heardWrong_130 ?_
              refine lv_istore_n (lv' := [(2, .int (va + 1)), (10, .int (M.1 252 (79 + 3 * i + 1))), (9, .int 1), (8, .int (M.1 252 (79 + 3 * i + 2))), (7, .int (M.1 252 (79 + 3 * i + 1))), (6, .int (M.1 252 (79 + 3 * i))), (5, .int (nI i)), (4, .int vd), (3, .int vb), (0, .ref (E.2.1 251)), (1, .int x1)]) hx hb dX7_heardWrong_131 rfl hl (by decide) rfl (fun ls hl => ?_)
              refine lv_iload hx hb dX7_heardWrong_132 (lv_at hl 2 rfl) ?_
              refine lv_if_eq (tgt := 149) hx hb dX7_heardWrong_134 (by decide) (fun z => absurd z (by decide)) (fun c_27 => ?_)
              refine lv_iload hx hb dX7_heardWrong_137 (lv_at hl 1 rfl) ?_
              refine lv_iload hx hb dX7_heardWrong_139 (lv_at hl 7 rfl) ?_
              refine lv_icmp_ge (tgt := 149) hx hb dX7_heardWrong_141 (by decide) (fun c_28 => ?_) (fun c_28 => ?_)
              · skip
                refine lv_iload_n hx hb dX7_heardWrong_149 rfl (lv_at hl 8 rfl) ?_
                refine lv_istore_n (lv' := [(3, .int vb), (2, .int (va + 1)), (10, .int (M.1 252 (79 + 3 * i + 1))), (9, .int 1), (8, .int (M.1 252 (79 + 3 * i + 2))), (7, .int (M.1 252 (79 + 3 * i + 1))), (6, .int (M.1 252 (79 + 3 * i))), (5, .int (nI i)), (4, .int vd), (0, .ref (E.2.1 251)), (1, .int x1)]) hx hb dX7_heardWrong_150 rfl hl (by decide) rfl (fun ls hl => ?_)
                refine lv_iload hx hb dX7_heardWrong_151 (lv_at hl 3 rfl) ?_
                refine lv_if_eq (tgt := 168) hx hb dX7_heardWrong_153 (by decide) (fun z => absurd z (by decide)) (fun c_29 => ?_)
                refine lv_iload hx hb dX7_heardWrong_156 (lv_at hl 2 rfl) ?_
                refine lv_iload hx hb dX7_heardWrong_158 (lv_at hl 8 rfl) ?_
                refine lv_icmp_ge (tgt := 168) hx hb dX7_heardWrong_160 (by decide) (fun c_30 => ?_) (fun c_30 => ?_)
                · skip
                  refine lv_iload hx hb dX7_heardWrong_168 (lv_at hl 8 rfl) ?_
                  refine lv_istore (lv' := [(4, .int vd), (3, .int vb), (2, .int (va + 1)), (10, .int (M.1 252 (79 + 3 * i + 1))), (9, .int 1), (8, .int (M.1 252 (79 + 3 * i + 2))), (7, .int (M.1 252 (79 + 3 * i + 1))), (6, .int (M.1 252 (79 + 3 * i))), (5, .int (nI i)), (0, .ref (E.2.1 251)), (1, .int x1)]) hx hb dX7_heardWrong_170 hl (by decide) rfl (fun ls hl => ?_)
                  refine lv_iinc (v := nI (i + 1)) (lv' := [(5, .int (nI (i + 1))), (4, .int vd), (3, .int vb), (2, .int (va + 1)), (10, .int (M.1 252 (79 + 3 * i + 1))), (9, .int 1), (8, .int (M.1 252 (79 + 3 * i + 2))), (7, .int (M.1 252 (79 + 3 * i + 1))), (6, .int (M.1 252 (79 + 3 * i))), (0, .ref (E.2.1 251)), (1, .int x1)]) hx hb dX7_heardWrong_172 hl (k := 8) rfl (nI_add i 1) (by decide) rfl (fun ls hl => ?_)
                  refine lv_goto (tgt := 24) hx hb dX7_heardWrong_175 (by decide) ?_
                  exact ih24  (i + 1) (va + 1) vb vd (by omega) (by omega) (by have hl0 := (show mHWl M i = M.1 252 (79 + 3 * i + 1) by unfold mHWl; rw [if_pos c_17]); rw [mHW_step, if_pos (show mHWf M i = true from decide_eq_true c_8), ← hbl]; dsimp only; rw [show mHWl M i = _ from hl0, if_pos c_28]) _ _ _ h (lv_sub hl [0, 1, 2, 3, 9, 10] rfl)
                · skip
                  refine lv_iload hx hb dX7_heardWrong_163 (lv_at hl 2 rfl) ?_
                  refine lv_goto (tgt := 170) hx hb dX7_heardWrong_165 (by decide) ?_
                  refine lv_istore (lv' := [(4, .int (M.1 252 (79 + 3 * i + 1))), (3, .int vb), (2, .int (va + 1)), (10, .int (M.1 252 (79 + 3 * i + 1))), (9, .int 1), (8, .int (M.1 252 (79 + 3 * i + 2))), (7, .int (M.1 252 (79 + 3 * i + 1))), (6, .int (M.1 252 (79 + 3 * i))), (5, .int (nI i)), (0, .ref (E.2.1 251)), (1, .int x1)]) hx hb dX7_heardWrong_170 hl (by decide) rfl (fun ls hl => ?_)
                  refine lv_iinc (v := nI (i + 1)) (lv' := [(5, .int (nI (i + 1))), (4, .int (M.1 252 (79 + 3 * i + 1))), (3, .int vb), (2, .int (va + 1)), (10, .int (M.1 252 (79 + 3 * i + 1))), (9, .int 1), (8, .int (M.1 252 (79 + 3 * i + 2))), (7, .int (M.1 252 (79 + 3 * i + 1))), (6, .int (M.1 252 (79 + 3 * i))), (0, .ref (E.2.1 251)), (1, .int x1)]) hx hb dX7_heardWrong_172 hl (k := 8) rfl (nI_add i 1) (by decide) rfl (fun ls hl => ?_)
                  refine lv_goto (tgt := 24) hx hb dX7_heardWrong_175 (by decide) ?_
                  exact ih24  (i + 1) (va + 1) vb (M.1 252 (79 + 3 * i + 1)) (by omega) (by omega) (by exact absurd c_28 c_30) _ _ _ h (lv_sub hl [0, 1, 2, 3, 9, 10] rfl)
              · skip
                refine lv_iload hx hb dX7_heardWrong_144 (lv_at hl 5 rfl) ?_
                refine lv_goto (tgt := 150) hx hb dX7_heardWrong_146 (by decide) ?_
                refine lv_istore_n (lv' := [(3, .int (M.1 252 (79 + 3 * i))), (2, .int (va + 1)), (10, .int (M.1 252 (79 + 3 * i + 1))), (9, .int 1), (8, .int (M.1 252 (79 + 3 * i + 2))), (7, .int (M.1 252 (79 + 3 * i + 1))), (6, .int (M.1 252 (79 + 3 * i))), (5, .int (nI i)), (4, .int vd), (0, .ref (E.2.1 251)), (1, .int x1)]) hx hb dX7_heardWrong_150 rfl hl (by decide) rfl (fun ls hl => ?_)
                refine lv_iload hx hb dX7_heardWrong_151 (lv_at hl 3 rfl) ?_
                refine lv_if_eq (tgt := 168) hx hb dX7_heardWrong_153 (by decide) (fun z => absurd z (by decide)) (fun c_31 => ?_)
                refine lv_iload hx hb dX7_heardWrong_156 (lv_at hl 2 rfl) ?_
                refine lv_iload hx hb dX7_heardWrong_158 (lv_at hl 8 rfl) ?_
                refine lv_icmp_ge (tgt := 168) hx hb dX7_heardWrong_160 (by decide) (fun c_32 => ?_) (fun c_32 => ?_)
                · skip
                  refine lv_iload hx hb dX7_heardWrong_168 (lv_at hl 8 rfl) ?_
                  refine lv_istore (lv' := [(4, .int vd), (3, .int (M.1 252 (79 + 3 * i))), (2, .int (va + 1)), (10, .int (M.1 252 (79 + 3 * i + 1))), (9, .int 1), (8, .int (M.1 252 (79 + 3 * i + 2))), (7, .int (M.1 252 (79 + 3 * i + 1))), (6, .int (M.1 252 (79 + 3 * i))), (5, .int (nI i)), (0, .ref (E.2.1 251)), (1, .int x1)]) hx hb dX7_heardWrong_170 hl (by decide) rfl (fun ls hl => ?_)
                  refine lv_iinc (v := nI (i + 1)) (lv' := [(5, .int (nI (i + 1))), (4, .int vd), (3, .int (M.1 252 (79 + 3 * i))), (2, .int (va + 1)), (10, .int (M.1 252 (79 + 3 * i + 1))), (9, .int 1), (8, .int (M.1 252 (79 + 3 * i + 2))), (7, .int (M.1 252 (79 + 3 * i + 1))), (6, .int (M.1 252 (79 + 3 * i))), (0, .ref (E.2.1 251)), (1, .int x1)]) hx hb dX7_heardWrong_172 hl (k := 8) rfl (nI_add i 1) (by decide) rfl (fun ls hl => ?_)
                  refine lv_goto (tgt := 24) hx hb dX7_heardWrong_175 (by decide) ?_
                  exact ih24  (i + 1) (va + 1) (M.1 252 (79 + 3 * i)) vd (by omega) (by omega) (by exact absurd c_32 c_28) _ _ _ h (lv_sub hl [0, 1, 2, 3, 9, 10] rfl)
                · skip
                  refine lv_iload hx hb dX7_heardWrong_163 (lv_at hl 2 rfl) ?_
                  refine lv_goto (tgt := 170) hx hb dX7_heardWrong_165 (by decide) ?_
                  refine lv_istore (lv' := [(4, .int (M.1 252 (79 + 3 * i + 1))), (3, .int (M.1 252 (79 + 3 * i))), (2, .int (va + 1)), (10, .int (M.1 252 (79 + 3 * i + 1))), (9, .int 1), (8, .int (M.1 252 (79 + 3 * i + 2))), (7, .int (M.1 252 (79 + 3 * i + 1))), (6, .int (M.1 252 (79 + 3 * i))), (5, .int (nI i)), (0, .ref (E.2.1 251)), (1, .int x1)]) hx hb dX7_heardWrong_170 hl (by decide) rfl (fun ls hl => ?_)
                  refine lv_iinc (v := nI (i + 1)) (lv' := [(5, .int (nI (i + 1))), (4, .int (M.1 252 (79 + 3 * i + 1))), (3, .int (M.1 252 (79 + 3 * i))), (2, .int (va + 1)), (10, .int (M.1 252 (79 + 3 * i + 1))), (9, .int 1), (8, .int (M.1 252 (79 + 3 * i + 2))), (7, .int (M.1 252 (79 + 3 * i + 1))), (6, .int (M.1 252 (79 + 3 * i))), (0, .ref (E.2.1 251)), (1, .int x1)]) hx hb dX7_heardWrong_172 hl (k := 8) rfl (nI_add i 1) (by decide) rfl (fun ls hl => ?_)
                  refine lv_goto (tgt := 24) hx hb dX7_heardWrong_175 (by decide) ?_
                  exact ih24  (i + 1) (va + 1) (M.1 252 (79 + 3 * i)) (M.1 252 (79 + 3 * i + 1)) (by omega) (by omega) (by have hl0 := (show mHWl M i = M.1 252 (79 + 3 * i + 1) by unfold mHWl; rw [if_pos c_17]); rw [mHW_step, if_pos (show mHWf M i = true from decide_eq_true c_8), ← hbl]; dsimp only; rw [show mHWl M i = _ from hl0, if_neg c_28]) _ _ _ h (lv_sub hl [0, 1, 2, 3, 9, 10] rfl)
    exact lp24 _ 0 0 (-4) 1000001 (Nat.lt_succ_self _) (by omega) rfl _ _ _ h (lv_sub hl [0, 1, 2, 3, 4, 5] rfl)
  · skip
    have c_3 : ¬ (0 ≤ x1.toInt ∧ x1.toInt ≤ 1) := uz_f er_1 c_3
    refine lv_iconst (v := (-1)) hx hb dX7_heardWrong_10 (by decide) ?_
    exact ur_iret C h hr hlocks (⟨rfl, by rw [if_neg c_3]⟩) dX7_heardWrong_11
set_option maxHeartbeats 4000000 in
set_option maxRecDepth 100000 in
theorem k_X7_likeOf (l : Launch) (E : uE) (hI : uI E) (M : uM) (p a kn : Nat) (hp : p < 6) (hak : a + 2 * kn ≤ 96) (hwd : ∀ k, k < kn → tn (M.2.1 261 (a + 2 * k)).toInt32 < 6 ∧ (M.2.1 261 (a + 2 * k)).toInt32 = nI (tn (M.2.1 261 (a + 2 * k)).toInt32)) (ht : ¬ M.1 252 3 = 0) : Met l yX7_likeOf wsX7_likeOf ({ frames := 5, cells := 0, slots := 0, locals := 122 }) (va_Pc [.ref (E.2.1 251), .int (nI p), .int (nI a), .int (nI kn)] (uB E M)) (va_Qi (fun r u => M = u ∧ r = mLike M a kn p) (uP E) (uA E)) 0 0 (uA E) := by
  have hin7 : ∀ w ∈ wsX70, w ∈ wsX7_likeOf := by decide +kernel
  refine u_start (cc := cX7_likeOf) (maxL := 8) (ret := (some .int)) hI (by decide) rfl (Nat.le_of_ble_eq_true rfl) ?_
  intro p_ e_ s_ m_ bl_ me_ c_ C hr hlocks h ls hl
  have hx := C.1.1
  have hb := C.1.2.1
  have hown : s_.vm.findClass RX7 = some m_.cls := C.1.2.2.2.1
  have hts := C.1.2.2.2.2
  have hl : lv_has ls 8 [(0, .ref (E.2.1 251)), (1, .int (nI p)), (2, .int (nI a)), (3, .int (nI kn))] := hl
  refine lv_ldc2 (v := 1000000) hx hb hown (hts (.constantLong RX7 179 1000000) (by decide +kernel)) dX7_likeOf_0 ?_
  refine lv_lstore (lv' := [(4, .long 1000000), (0, .ref (E.2.1 251)), (1, .int (nI p)), (2, .int (nI a)), (3, .int (nI kn))]) hx hb dX7_likeOf_3 hl (by decide) rfl (fun ls hl => ?_)
  refine lv_iconst (v := 0) hx hb dX7_likeOf_5 (by decide) ?_
  refine lv_istore (lv' := [(6, .int 0), (4, .long 1000000), (0, .ref (E.2.1 251)), (1, .int (nI p)), (2, .int (nI a)), (3, .int (nI kn))]) hx hb dX7_likeOf_6 hl (by decide) rfl (fun ls hl => ?_)
  have lp8 : ∀ (n8 : Nat) (i : Nat) (v : Int64), kn - i < n8 → i ≤ kn → v = uLike (mLk M p a) i → ∀ (H : Heap) (locs : List Loc) (ls : Array Slot), uH E M s_ H locs → lv_has ls 8 [(6, .int (nI i)), (4, .long v), (0, .ref (E.2.1 251)), (1, .int (nI p)), (2, .int (nI a)), (3, .int (nI kn))] → W p_ l e_ ({ frames := 5, cells := 0, slots := 0, locals := 122 }) s_ m_ (List.toArray [.ref (E.2.1 251), .int (nI p), .int (nI a), .int (nI kn)]) bl_ me_ c_ H locs 0 0 (MQ bl_ (va_Qi (fun r u => M = u ∧ r = mLike M a kn p) (uP E) (uA E)) (List.toArray [.ref (E.2.1 251), .int (nI p), .int (nI a), .int (nI kn)]) s_ 0 0 (uA E)) (F0 m_ 8 ls []) := by
    intro n8
    induction n8 with
    | zero => intro i v hms; exact absurd hms (Nat.not_lt_zero _)
    | succ n8 ih8 =>
      intro i v hms8 hi hv H locs ls h hl
      refine lv_iload hx hb dX7_likeOf_8 (lv_at hl 0 rfl) ?_
      refine lv_iload_n hx hb dX7_likeOf_10 rfl (lv_at hl 5 rfl) ?_
      refine lv_icmp_ge (tgt := 77) hx hb dX7_likeOf_11 (by decide) (fun c_1 => ?_) (fun c_1 => ?_)
      · skip
        have c_1 : kn ≤ i := (nI_leI (a := kn) (b := i) (by omega) (by omega)).mp c_1
        refine lv_lload hx hb dX7_likeOf_77 (lv_at hl 1 rfl) ?_
        refine lv_l2i (v := v.toInt32) hx hb dX7_likeOf_79 rfl ?_
        exact ur_iret C h hr hlocks (⟨rfl, by rw [hv, show i = kn by omega]; rfl⟩) dX7_likeOf_80
      · skip
        have c_1 : ¬ kn ≤ i := fun z => c_1 ((nI_leI (a := kn) (b := i) (by omega) (by omega)).mpr z)
        refine lv_aload_n hx hb dX7_likeOf_14 rfl (lv_at hl 2 rfl) ?_
        refine lv_iload_n hx hb dX7_likeOf_15 rfl (lv_at hl 3 rfl) ?_
        refine lv_aload_n hx hb dX7_likeOf_16 rfl (lv_at hl 2 rfl) ?_
        refine ur_get C h 251 (by decide) (uc_251 E _) (Cn := RX7) (T := TX7) (N := 17) rfl hin7 15 (by decide) (by decide +kernel) rfl dX7_likeOf_17 ?_
        refine lv_iload_n hx hb dX7_likeOf_20 rfl (lv_at hl 4 rfl) ?_
        refine lv_iconst (v := 2) hx hb dX7_likeOf_21 (by decide) ?_
        refine lv_iload hx hb dX7_likeOf_22 (lv_at hl 0 rfl) ?_
        refine lv_imul hx hb dX7_likeOf_24 ?_
        refine ur_eq (y := nI (2 * i)) (pk_mul 2 i) ?_
        refine lv_iadd hx hb dX7_likeOf_25 ?_
        refine ur_eq (y := nI (a + 2 * i)) (nI_add a (2 * i)) ?_
        refine ur_lald C h 261 (by decide) (uc_261 E _) (a + 2 * i) (by omega) (by decide) dX7_likeOf_26 ?_
        refine lv_l2i (v := (M.2.1 261 (a + 2 * i)).toInt32) hx hb dX7_likeOf_27 rfl ?_
        obtain ⟨hw1, hw2⟩ := hwd i (by omega)
        refine ur_eq (y := nI (tn (M.2.1 261 (a + 2 * i)).toInt32)) hw2 ?_
        refine ur_callVi C h (k := 251) (As := [.int (nI p), .int (nI (tn (M.2.1 261 (a + 2 * i)).toInt32))]) (rest := []) (k_X7_passNow l E hI M p (tn (M.2.1 261 (a + 2 * i)).toInt32) (by omega) (by omega) ht) (cwV 2 hts gX7_likeOf_X7_passNow rfl rfl rfl (by decide +kernel) ⟨Nat.le_of_ble_eq_true rfl, Nat.le_of_ble_eq_true rfl⟩) (by decide) (uc_251 E _) (T := TX7) (N := 17) rfl rfl hl.1 rfl (Nat.le_of_ble_eq_true rfl) dX7_likeOf_28 (fun r_2 M_3 H locs hw_3 h => ?_)
        obtain ⟨hu, er_2⟩ := hw_3
        subst hu
        refine ur_eq (y := mPassIn M p (tn (M.2.1 261 (a + 2 * i)).toInt32) (M.1 252 4)) er_2 ?_
        refine lv_topi (fun v_4 ev_4 => ?_)
        refine lv_istore (lv' := [(7, .int v_4), (6, .int (nI i)), (4, .long v), (0, .ref (E.2.1 251)), (1, .int (nI p)), (2, .int (nI a)), (3, .int (nI kn))]) hx hb dX7_likeOf_31 hl (by decide) rfl (fun ls hl => ?_)
        refine lv_lload hx hb dX7_likeOf_33 (lv_at hl 2 rfl) ?_
        refine lv_aload_n hx hb dX7_likeOf_35 rfl (lv_at hl 3 rfl) ?_
        refine ur_get C h 251 (by decide) (uc_251 E _) (Cn := RX7) (T := TX7) (N := 17) rfl hin7 15 (by decide) (by decide +kernel) rfl dX7_likeOf_36 ?_
        refine lv_iload_n hx hb dX7_likeOf_39 rfl (lv_at hl 5 rfl) ?_
        refine lv_iconst (v := 2) hx hb dX7_likeOf_40 (by decide) ?_
        refine lv_iload hx hb dX7_likeOf_41 (lv_at hl 1 rfl) ?_
        refine lv_imul hx hb dX7_likeOf_43 ?_
        refine ur_eq (y := nI (2 * i)) (pk_mul 2 i) ?_
        refine lv_iadd hx hb dX7_likeOf_44 ?_
        refine ur_eq (y := nI (a + 2 * i)) (nI_add a (2 * i)) ?_
        refine lv_iconst (v := 1) hx hb dX7_likeOf_45 (by decide) ?_
        refine lv_iadd hx hb dX7_likeOf_46 ?_
        refine ur_eq (y := nI (a + 2 * i + 1)) (nI_add (a + 2 * i) 1) ?_
        refine ur_lald C h 261 (by decide) (uc_261 E _) (a + 2 * i + 1) (by omega) (by decide) dX7_likeOf_47 ?_
        refine lv_lconst (v := 1) hx hb dX7_likeOf_48 (by decide) ?_
        refine W.lcmp hx hb dX7_likeOf_49 ?_
        refine lv_if_ne (tgt := 58) hx hb dX7_likeOf_50 (by decide) (fun c_5 => ?_) (fun c_5 => ?_)
        · skip
          have c_5 : ¬ (M.2.1 261 (a + 2 * i + 1)) = 1 := (ul_ne (M.2.1 261 (a + 2 * i + 1)) 1).mp c_5
          refine lv_ldc (v := 1000000) hx hb hown (hts (.constant RX7 59 1000000) (by decide +kernel)) dX7_likeOf_58 ?_
          refine lv_iload hx hb dX7_likeOf_60 (lv_at hl 0 rfl) ?_
          refine lv_isub hx hb dX7_likeOf_62 ?_
          refine lv_i2l (v := (1000000 - v_4).toInt64) hx hb dX7_likeOf_63 rfl ?_
          refine lv_lmul hx hb dX7_likeOf_64 ?_
          refine lv_ldc2 (v := 1000000) hx hb hown (hts (.constantLong RX7 179 1000000) (by decide +kernel)) dX7_likeOf_65 ?_
          refine lv_ldiv hx hb dX7_likeOf_68 (by decide) ?_
          refine lv_topl (fun v_6 ev_6 => ?_)
          refine lv_lstore (lv' := [(4, .long v_6), (7, .int v_4), (6, .int (nI i)), (0, .ref (E.2.1 251)), (1, .int (nI p)), (2, .int (nI a)), (3, .int (nI kn))]) hx hb dX7_likeOf_69 hl (by decide) rfl (fun ls hl => ?_)
          refine lv_iinc (v := nI (i + 1)) (lv' := [(6, .int (nI (i + 1))), (4, .long v_6), (7, .int v_4), (0, .ref (E.2.1 251)), (1, .int (nI p)), (2, .int (nI a)), (3, .int (nI kn))]) hx hb dX7_likeOf_71 hl (k := 2) rfl (nI_add i 1) (by decide) rfl (fun ls hl => ?_)
          refine lv_goto (tgt := 8) hx hb dX7_likeOf_74 (by decide) ?_
          exact ih8  (i + 1) v_6 (by omega) (by omega) (by subst ev_4; subst ev_6; rw [uLike, mLk, if_neg c_5, ← hv]) _ _ _ h (lv_sub hl [0, 1, 3, 4, 5, 6] rfl)
        · skip
          have c_5 : (M.2.1 261 (a + 2 * i + 1)) = 1 := (ul_eq (M.2.1 261 (a + 2 * i + 1)) 1).mp c_5
          refine lv_iload hx hb dX7_likeOf_53 (lv_at hl 0 rfl) ?_
          refine lv_goto (tgt := 63) hx hb dX7_likeOf_55 (by decide) ?_
          refine lv_i2l (v := v_4.toInt64) hx hb dX7_likeOf_63 rfl ?_
          refine lv_lmul hx hb dX7_likeOf_64 ?_
          refine lv_ldc2 (v := 1000000) hx hb hown (hts (.constantLong RX7 179 1000000) (by decide +kernel)) dX7_likeOf_65 ?_
          refine lv_ldiv hx hb dX7_likeOf_68 (by decide) ?_
          refine lv_topl (fun v_7 ev_7 => ?_)
          refine lv_lstore (lv' := [(4, .long v_7), (7, .int v_4), (6, .int (nI i)), (0, .ref (E.2.1 251)), (1, .int (nI p)), (2, .int (nI a)), (3, .int (nI kn))]) hx hb dX7_likeOf_69 hl (by decide) rfl (fun ls hl => ?_)
          refine lv_iinc (v := nI (i + 1)) (lv' := [(6, .int (nI (i + 1))), (4, .long v_7), (7, .int v_4), (0, .ref (E.2.1 251)), (1, .int (nI p)), (2, .int (nI a)), (3, .int (nI kn))]) hx hb dX7_likeOf_71 hl (k := 2) rfl (nI_add i 1) (by decide) rfl (fun ls hl => ?_)
          refine lv_goto (tgt := 8) hx hb dX7_likeOf_74 (by decide) ?_
          exact ih8  (i + 1) v_7 (by omega) (by omega) (by subst ev_4; subst ev_7; rw [uLike, mLk, if_pos c_5, ← hv]) _ _ _ h (lv_sub hl [0, 1, 3, 4, 5, 6] rfl)
  exact lp8 _ 0 1000000 (Nat.lt_succ_self _) (by omega) rfl _ _ _ h (lv_sub hl [0, 1, 2, 3, 4, 5] rfl)
set_option maxHeartbeats 4000000 in
set_option maxRecDepth 100000 in
theorem k_X7_who (l : Launch) (E : uE) (hI : uI E) (M : uM) (x1 x2 x3 x4 x5 : Int32) (n : Nat) (hn : M.1 252 0 = nI n) (hn6 : n ≤ 6) (nw : Nat) (hnw : M.1 252 1 = nI nw) (hnw6 : nw ≤ 6) (ht : ¬ M.1 252 3 = 0) (hsz : ∀ s, s < 4 → 0 ≤ (M.1 260 s).toInt ∧ (M.1 260 s).toInt ≤ 24) : Met l yX7_who wsX7_who ({ frames := 6, cells := 0, slots := 0, locals := 149 }) (va_Pc [.ref (E.2.1 251), .int x1, .int x2, .int x3, .int x4, .int x5] (uB E M)) (va_Qi (fun r u => M = u ∧ r = mWho M n nw x1 x2 x3 x4 x5) (uP E) (uA E)) 0 0 (uA E) := by
  have hin7 : ∀ w ∈ wsX70, w ∈ wsX7_who := by decide +kernel
  refine u_start (cc := cX7_who) (maxL := 14) (ret := (some .int)) hI (by decide) rfl (Nat.le_of_ble_eq_true rfl) ?_
  intro p_ e_ s_ m_ bl_ me_ c_ C hr hlocks h ls hl
  have hx := C.1.1
  have hb := C.1.2.1
  have hown : s_.vm.findClass RX7 = some m_.cls := C.1.2.2.2.1
  have hts := C.1.2.2.2.2
  have hl : lv_has ls 14 [(0, .ref (E.2.1 251)), (1, .int x1), (2, .int x2), (3, .int x3), (4, .int x4), (5, .int x5)] := hl
  refine lv_iload_n hx hb dX7_who_0 rfl (lv_at hl 1 rfl) ?_
  refine ur_callSi C h (As := [.int x1]) (rest := []) (k_X7_isSheet l E hI M x1) (va_cwS 1 hts gX7_who_X7_isSheet rfl rfl rfl (by decide +kernel) ⟨Nat.le_of_ble_eq_true rfl, Nat.le_of_ble_eq_true rfl⟩) rfl hl.1 rfl (Nat.le_of_ble_eq_true rfl) dX7_who_1 (fun r_1 M_2 H locs hw_2 h => ?_)
  obtain ⟨hu, er_1⟩ := hw_2
  subst hu
  refine lv_if_eq (tgt := 43) hx hb dX7_who_4 (by decide) (fun c_3 => ?_) (fun c_3 => ?_)
  · skip
    have c_3 : ¬ (0 ≤ x1.toInt ∧ x1.toInt ≤ 3) := uz_f er_1 c_3
    refine lv_iconst (v := (-1)) hx hb dX7_who_43 (by decide) ?_
    exact ur_iret C h hr hlocks (⟨rfl, by unfold mWho; rw [if_neg (fun z => by first | exact absurd z.1 (by assumption) | exact absurd z.2.1 (by assumption) | exact absurd z.2.2.1 (by assumption) | (rcases z.2.2.2 with z | z <;> contradiction))]⟩) dX7_who_44
  · skip
    have c_3 : 0 ≤ x1.toInt ∧ x1.toInt ≤ 3 := uz_t er_1 c_3
    refine lv_iload_n hx hb dX7_who_7 rfl (lv_at hl 2 rfl) ?_
    refine ur_callSi C h (As := [.int x2]) (rest := []) (k_X7_isLane l E hI M x2) (va_cwS 1 hts gX7_who_X7_isLane rfl rfl rfl (by decide +kernel) ⟨Nat.le_of_ble_eq_true rfl, Nat.le_of_ble_eq_true rfl⟩) rfl hl.1 rfl (Nat.le_of_ble_eq_true rfl) dX7_who_8 (fun r_4 M_5 H locs hw_5 h => ?_)
    obtain ⟨hu, er_4⟩ := hw_5
    subst hu
    refine lv_if_eq (tgt := 43) hx hb dX7_who_11 (by decide) (fun c_6 => ?_) (fun c_6 => ?_)
    · skip
      have c_6 : ¬ (0 ≤ x2.toInt ∧ x2.toInt ≤ 3) := uz_f er_4 c_6
      refine lv_iconst (v := (-1)) hx hb dX7_who_43 (by decide) ?_
      exact ur_iret C h hr hlocks (⟨rfl, by unfold mWho; rw [if_neg (fun z => by first | exact absurd z.1 (by assumption) | exact absurd z.2.1 (by assumption) | exact absurd z.2.2.1 (by assumption) | (rcases z.2.2.2 with z | z <;> contradiction))]⟩) dX7_who_44
    · skip
      have c_6 : 0 ≤ x2.toInt ∧ x2.toInt ≤ 3 := uz_t er_4 c_6
      refine lv_iload hx hb dX7_who_14 (lv_at hl 4 rfl) ?_
      refine lv_i2l (v := x4.toInt64) hx hb dX7_who_16 rfl ?_
      refine lv_lconst (v := 1) hx hb dX7_who_17 (by decide) ?_
      refine lv_ldc2 (v := 8) hx hb hown (hts (.constantLong RX7 197 8) (by decide +kernel)) dX7_who_18 ?_
      refine ur_callSi C h (As := [.long x4.toInt64, .long 1, .long 8]) (rest := []) (k_X7_in l E hI M x4.toInt64 1 8) (va_cwS 3 hts gX7_who_X7_in rfl rfl rfl (by decide +kernel) ⟨Nat.le_of_ble_eq_true rfl, Nat.le_of_ble_eq_true rfl⟩) rfl hl.1 rfl (Nat.le_of_ble_eq_true rfl) dX7_who_21 (fun r_7 M_8 H locs hw_8 h => ?_)
      obtain ⟨hu, er_7⟩ := hw_8
      subst hu
      have er_7 : r_7 = if 1 ≤ x4.toInt ∧ x4.toInt ≤ 8 then 1 else 0 := u_in (x := x4.toInt) (u_w _) rfl rfl er_7
      refine lv_if_eq (tgt := 43) hx hb dX7_who_24 (by decide) (fun c_9 => ?_) (fun c_9 => ?_)
      · skip
        have c_9 : ¬ (1 ≤ x4.toInt ∧ x4.toInt ≤ 8) := uz_f er_7 c_9
        refine lv_iconst (v := (-1)) hx hb dX7_who_43 (by decide) ?_
        exact ur_iret C h hr hlocks (⟨rfl, by unfold mWho; rw [if_neg (fun z => by first | exact absurd z.1 (by assumption) | exact absurd z.2.1 (by assumption) | exact absurd z.2.2.1 (by assumption) | (rcases z.2.2.2 with z | z <;> contradiction))]⟩) dX7_who_44
      · skip
        have c_9 : 1 ≤ x4.toInt ∧ x4.toInt ≤ 8 := uz_t er_7 c_9
        refine lv_iload hx hb dX7_who_27 (lv_at hl 5 rfl) ?_
        refine lv_bipush (v := (-4)) hx hb dX7_who_29 (by decide) ?_
        refine lv_icmp_eq (tgt := 45) hx hb dX7_who_31 (by decide) (fun c_10 => ?_) (fun c_10 => ?_)
        · skip
          obtain ⟨hnx1, enx1⟩ := u_tn (x := x1) (n := 4) ⟨by omega, by omega⟩ (by omega)
          obtain ⟨hnx4, enx4⟩ := u_tn (x := x4) (n := 9) ⟨by omega, by omega⟩ (by omega)
          refine lv_aload_n hx hb dX7_who_45 rfl (lv_at hl 0 rfl) ?_
          refine lv_iload_n hx hb dX7_who_46 rfl (lv_at hl 1 rfl) ?_
          refine ur_eq (y := nI (tn x1)) enx1 ?_
          refine lv_iload_n hx hb dX7_who_47 rfl (lv_at hl 2 rfl) ?_
          refine lv_iload_n hx hb dX7_who_48 rfl (lv_at hl 3 rfl) ?_
          refine lv_iconst (v := 2) hx hb dX7_who_49 (by decide) ?_
          refine lv_iload hx hb dX7_who_50 (lv_at hl 4 rfl) ?_
          refine ur_eq (y := nI (tn x4)) enx4 ?_
          refine lv_imul hx hb dX7_who_52 ?_
          refine ur_eq (y := nI (2 * (tn x4))) (pk_mul 2 (tn x4)) ?_
          refine ur_callVi C h (k := 251) (As := [.int (nI (tn x1)), .int x2, .int x3, .int (nI (2 * (tn x4)))]) (rest := []) (k_X7_why l E hI M (tn x1) x2 x3 (nI (2 * (tn x4))) (by omega)) (cwV 4 hts gX7_who_X7_why rfl rfl rfl (by decide +kernel) ⟨Nat.le_of_ble_eq_true rfl, Nat.le_of_ble_eq_true rfl⟩) (by decide) (uc_251 E _) (T := TX7) (N := 17) rfl rfl hl.1 rfl (Nat.le_of_ble_eq_true rfl) dX7_who_53 (fun r_11 M_12 H locs hw_12 h => ?_)
          obtain ⟨hu, er_11⟩ := hw_12
          subst hu
          refine ur_eq (y := mWhyS M (tn x1) x2 x3 (nI (2 * (tn x4)))) er_11 ?_
          refine lv_topi (fun v_13 ev_13 => ?_)
          refine lv_istore (lv' := [(6, .int v_13), (0, .ref (E.2.1 251)), (1, .int x1), (2, .int x2), (3, .int x3), (4, .int x4), (5, .int x5)]) hx hb dX7_who_56 hl (by decide) rfl (fun ls hl => ?_)
          refine lv_iload hx hb dX7_who_58 (lv_at hl 0 rfl) ?_
          refine lv_if_ge (tgt := 66) hx hb dX7_who_60 (by decide) (fun c_14 => ?_) (fun c_14 => ?_)
          · skip
            have hwy : 0 ≤ mWhyS M (tn x1) x2 x3 (nI (2 * tn x4)) := ev_13 ▸ c_14
            obtain ⟨hy1, hy2, hy3, hy4, hy5⟩ := mWhyS_ok hwy
            have hy6 := hsz (tn x1) (by omega)
            rw [nI_toInt (n := 2 * tn x4) (by omega)] at hy3
            obtain ⟨hnx3, enx3⟩ := u_tn (x := x3) (n := 25) ⟨by omega, by omega⟩ (by omega)
            have hx3 : (tn x3 : Int) = x3.toInt := by unfold tn; omega
            refine lv_bipush (v := 24) hx hb dX7_who_66 (by decide) ?_
            refine lv_iload_n hx hb dX7_who_68 rfl (lv_at hl 2 rfl) ?_
            refine ur_eq (y := nI (tn x1)) enx1 ?_
            refine lv_imul hx hb dX7_who_69 ?_
            refine ur_eq (y := nI (24 * (tn x1))) (pk_mul 24 (tn x1)) ?_
            refine lv_iload_n hx hb dX7_who_70 rfl (lv_at hl 4 rfl) ?_
            refine ur_eq (y := nI (tn x3)) enx3 ?_
            refine lv_iadd hx hb dX7_who_71 ?_
            refine ur_eq (y := nI (24 * (tn x1) + tn x3)) (nI_add (24 * (tn x1)) (tn x3)) ?_
            refine lv_istore (lv' := [(7, .int (nI (24 * (tn x1) + tn x3))), (6, .int v_13), (0, .ref (E.2.1 251)), (1, .int x1), (2, .int x2), (3, .int x3), (4, .int x4), (5, .int x5)]) hx hb dX7_who_72 hl (by decide) rfl (fun ls hl => ?_)
            refine lv_iconst (v := 0) hx hb dX7_who_74 (by decide) ?_
            refine lv_istore (lv' := [(8, .int 0), (7, .int (nI (24 * (tn x1) + tn x3))), (6, .int v_13), (0, .ref (E.2.1 251)), (1, .int x1), (2, .int x2), (3, .int x3), (4, .int x4), (5, .int x5)]) hx hb dX7_who_75 hl (by decide) rfl (fun ls hl => ?_)
            have lp77 : ∀ (n77 : Nat) (i : Nat), tn x4 - i < n77 → i ≤ tn x4 → uAll (mTold M nw (24 * tn x1 + tn x3)) true i = true → ∀ (H : Heap) (locs : List Loc) (ls : Array Slot), uH E M s_ H locs → lv_has ls 14 [(8, .int (nI i)), (7, .int (nI (24 * (tn x1) + tn x3))), (6, .int v_13), (0, .ref (E.2.1 251)), (1, .int x1), (2, .int x2), (3, .int x3), (4, .int x4), (5, .int x5)] → W p_ l e_ ({ frames := 6, cells := 0, slots := 0, locals := 149 }) s_ m_ (List.toArray [.ref (E.2.1 251), .int x1, .int x2, .int x3, .int x4, .int x5]) bl_ me_ c_ H locs 0 0 (MQ bl_ (va_Qi (fun r u => M = u ∧ r = mWho M n nw x1 x2 x3 x4 x5) (uP E) (uA E)) (List.toArray [.ref (E.2.1 251), .int x1, .int x2, .int x3, .int x4, .int x5]) s_ 0 0 (uA E)) (F0 m_ 77 ls []) := by
              intro n77
              induction n77 with
              | zero => intro i hms; exact absurd hms (Nat.not_lt_zero _)
              | succ n77 ih77 =>
                intro i hms77 hi hto H locs ls h hl
                refine lv_iload hx hb dX7_who_77 (lv_at hl 0 rfl) ?_
                refine lv_iload hx hb dX7_who_79 (lv_at hl 7 rfl) ?_
                refine ur_eq (y := nI (tn x4)) enx4 ?_
                refine lv_icmp_ge (tgt := 143) hx hb dX7_who_81 (by decide) (fun c_15 => ?_) (fun c_15 => ?_)
                · skip
                  have c_15 : (tn x4) ≤ i := (nI_leI (a := (tn x4)) (b := i) (by omega) (by omega)).mp c_15
                  have hwd : ∀ k, k < tn x4 → tn (M.2.1 261 (24 * tn x1 + tn x3 + 2 * k)).toInt32 < 6 ∧ (M.2.1 261 (24 * tn x1 + tn x3 + 2 * k)).toInt32 = nI (tn (M.2.1 261 (24 * tn x1 + tn x3 + 2 * k)).toInt32) := fun k hk => by
                    have hk1 := of_decide_eq_true (uAll_t (show uAll (mTold M nw (24 * tn x1 + tn x3)) true (tn x4) = true from by rw [← show i = tn x4 by omega]; exact hto) k hk)
                    have hk2 := u_l2i hk1.1 (by omega)
                    exact ⟨by omega, hk2.2⟩
                  refine lv_lconst (v := 0) hx hb dX7_who_143 (by decide) ?_
                  refine lv_lstore (lv' := [(8, .long 0), (7, .int (nI (24 * (tn x1) + tn x3))), (6, .int v_13), (0, .ref (E.2.1 251)), (1, .int x1), (2, .int x2), (3, .int x3), (4, .int x4), (5, .int x5)]) hx hb dX7_who_144 hl (by decide) rfl (fun ls hl => ?_)
                  refine lv_bipush (v := (-4)) hx hb dX7_who_146 (by decide) ?_
                  refine lv_istore (lv' := [(10, .int (-4)), (8, .long 0), (7, .int (nI (24 * (tn x1) + tn x3))), (6, .int v_13), (0, .ref (E.2.1 251)), (1, .int x1), (2, .int x2), (3, .int x3), (4, .int x4), (5, .int x5)]) hx hb dX7_who_148 hl (by decide) rfl (fun ls hl => ?_)
                  refine lv_iconst (v := (-1)) hx hb dX7_who_150 (by decide) ?_
                  refine lv_istore (lv' := [(11, .int (-1)), (10, .int (-4)), (8, .long 0), (7, .int (nI (24 * (tn x1) + tn x3))), (6, .int v_13), (0, .ref (E.2.1 251)), (1, .int x1), (2, .int x2), (3, .int x3), (4, .int x4), (5, .int x5)]) hx hb dX7_who_151 hl (by decide) rfl (fun ls hl => ?_)
                  refine lv_iconst (v := 0) hx hb dX7_who_153 (by decide) ?_
                  refine lv_istore (lv' := [(12, .int 0), (11, .int (-1)), (10, .int (-4)), (8, .long 0), (7, .int (nI (24 * (tn x1) + tn x3))), (6, .int v_13), (0, .ref (E.2.1 251)), (1, .int x1), (2, .int x2), (3, .int x3), (4, .int x4), (5, .int x5)]) hx hb dX7_who_154 hl (by decide) rfl (fun ls hl => ?_)
                  have lp156 : ∀ (n156 : Nat) (i2 : Nat) (sm : Int64) (bs ms : Int32), n - i2 < n156 → i2 ≤ n → (sm, bs, ms) = uWho (mLike M (24 * tn x1 + tn x3) (tn x4)) i2 → ∀ (H : Heap) (locs : List Loc) (ls : Array Slot), uH E M s_ H locs → lv_has ls 14 [(12, .int (nI i2)), (11, .int ms), (10, .int bs), (8, .long sm), (7, .int (nI (24 * (tn x1) + tn x3))), (6, .int v_13), (0, .ref (E.2.1 251)), (1, .int x1), (2, .int x2), (3, .int x3), (4, .int x4), (5, .int x5)] → W p_ l e_ ({ frames := 6, cells := 0, slots := 0, locals := 149 }) s_ m_ (List.toArray [.ref (E.2.1 251), .int x1, .int x2, .int x3, .int x4, .int x5]) bl_ me_ c_ H locs 0 0 (MQ bl_ (va_Qi (fun r u => M = u ∧ r = mWho M n nw x1 x2 x3 x4 x5) (uP E) (uA E)) (List.toArray [.ref (E.2.1 251), .int x1, .int x2, .int x3, .int x4, .int x5]) s_ 0 0 (uA E)) (F0 m_ 156 ls []) := by
                    intro n156
                    induction n156 with
                    | zero => intro i2 sm bs ms hms; exact absurd hms (Nat.not_lt_zero _)
                    | succ n156 ih156 =>
                      intro i2 sm bs ms hms156 hi2 hbl H locs ls h hl
                      refine lv_iload hx hb dX7_who_156 (lv_at hl 0 rfl) ?_
                      refine lv_aload_n hx hb dX7_who_158 rfl (lv_at hl 6 rfl) ?_
                      refine ur_get C h 251 (by decide) (uc_251 E _) (Cn := RX7) (T := TX7) (N := 17) rfl hin7 0 (by decide) (by decide +kernel) rfl dX7_who_159 ?_
                      refine lv_iconst (v := 0) hx hb dX7_who_162 (by decide) ?_
                      refine ur_iald C h 252 (by decide) (uc_252 E _) (0) (by decide) (by decide) dX7_who_163 ?_
                      refine ur_eq (y := nI n) (hn) ?_
                      refine lv_icmp_ge (tgt := 225) hx hb dX7_who_164 (by decide) (fun c_16 => ?_) (fun c_16 => ?_)
                      · skip
                        have c_16 : n ≤ i2 := (nI_leI (a := n) (b := i2) (by omega) (by omega)).mp c_16
                        refine lv_iload hx hb dX7_who_225 (lv_at hl 11 rfl) ?_
                        refine lv_bipush (v := (-4)) hx hb dX7_who_227 (by decide) ?_
                        refine lv_icmp_ne (tgt := 235) hx hb dX7_who_229 (by decide) (fun c_17 => ?_) (fun c_17 => ?_)
                        · skip
                          refine lv_lload hx hb dX7_who_235 (lv_at hl 3 rfl) ?_
                          refine lv_lconst (v := 0) hx hb dX7_who_237 (by decide) ?_
                          refine W.lcmp hx hb dX7_who_238 ?_
                          refine lv_if_ne (tgt := 246) hx hb dX7_who_239 (by decide) (fun c_18 => ?_) (fun c_18 => ?_)
                          · skip
                            have c_18 : ¬ sm = 0 := (ul_ne sm 0).mp c_18
                            exact absurd (show x5 = -4 by assumption) (by assumption)
                          · skip
                            have c_18 : sm = 0 := (ul_eq sm 0).mp c_18
                            refine lv_iconst (v := 0) hx hb dX7_who_242 (by decide) ?_
                            refine lv_goto (tgt := 265) hx hb dX7_who_243 (by decide) ?_
                            exact ur_iret C h hr hlocks (⟨rfl, by unfold mWho; rw [if_pos ⟨by assumption, by assumption, by assumption, by first | exact Or.inl (by assumption) | exact Or.inr (by assumption)⟩, if_pos (by assumption), if_pos (show uAll (mTold M nw (24 * tn x1 + tn x3)) true (tn x4) = true from by rw [← show i = tn x4 by omega]; exact hto), if_neg (by assumption), ← show i2 = n by omega, ← hbl, if_pos (by assumption)]⟩) dX7_who_265
                        · skip
                          refine lv_iload hx hb dX7_who_232 (lv_at hl 2 rfl) ?_
                          exact ur_iret C h hr hlocks (⟨rfl, by unfold mWho; rw [if_pos ⟨by assumption, by assumption, by assumption, by first | exact Or.inl (by assumption) | exact Or.inr (by assumption)⟩, if_pos (by assumption), if_pos (show uAll (mTold M nw (24 * tn x1 + tn x3)) true (tn x4) = true from by rw [← show i = tn x4 by omega]; exact hto), if_pos (by assumption), ← show i2 = n by omega, ← hbl]⟩) dX7_who_234
                      · skip
                        have c_16 : ¬ n ≤ i2 := fun z => c_16 ((nI_leI (a := n) (b := i2) (by omega) (by omega)).mpr z)
                        refine lv_aload_n hx hb dX7_who_167 rfl (lv_at hl 6 rfl) ?_
                        refine lv_iload hx hb dX7_who_168 (lv_at hl 0 rfl) ?_
                        refine lv_iload hx hb dX7_who_170 (lv_at hl 4 rfl) ?_
                        refine lv_iload hx hb dX7_who_172 (lv_at hl 10 rfl) ?_
                        refine ur_eq (y := nI (tn x4)) enx4 ?_
                        refine ur_callVi C h (k := 251) (As := [.int (nI i2), .int (nI (24 * (tn x1) + tn x3)), .int (nI (tn x4))]) (rest := []) (k_X7_likeOf l E hI M i2 (24 * (tn x1) + tn x3) (tn x4) (by omega) (by omega) hwd ht) (cwV 3 hts gX7_who_X7_likeOf rfl rfl rfl (by decide +kernel) ⟨Nat.le_of_ble_eq_true rfl, Nat.le_of_ble_eq_true rfl⟩) (by decide) (uc_251 E _) (T := TX7) (N := 17) rfl rfl hl.1 rfl (Nat.le_of_ble_eq_true rfl) dX7_who_174 (fun r_19 M_20 H locs hw_20 h => ?_)
                        obtain ⟨hu, er_19⟩ := hw_20
                        subst hu
                        refine ur_eq (y := mLike M (24 * (tn x1) + tn x3) (tn x4) i2) er_19 ?_
                        refine lv_topi (fun v_21 ev_21 => ?_)
                        refine lv_istore (lv' := [(13, .int v_21), (12, .int (nI i2)), (11, .int ms), (10, .int bs), (8, .long sm), (7, .int (nI (24 * (tn x1) + tn x3))), (6, .int v_13), (0, .ref (E.2.1 251)), (1, .int x1), (2, .int x2), (3, .int x3), (4, .int x4), (5, .int x5)]) hx hb dX7_who_177 hl (by decide) rfl (fun ls hl => ?_)
                        refine lv_lload hx hb dX7_who_179 (lv_at hl 4 rfl) ?_
                        refine lv_iload hx hb dX7_who_181 (lv_at hl 0 rfl) ?_
                        refine lv_i2l (v := v_21.toInt64) hx hb dX7_who_183 rfl ?_
                        refine lv_ladd hx hb dX7_who_184 ?_
                        refine lv_lstore (lv' := [(8, .long (sm + v_21.toInt64)), (13, .int v_21), (12, .int (nI i2)), (11, .int ms), (10, .int bs), (7, .int (nI (24 * (tn x1) + tn x3))), (6, .int v_13), (0, .ref (E.2.1 251)), (1, .int x1), (2, .int x2), (3, .int x3), (4, .int x4), (5, .int x5)]) hx hb dX7_who_185 hl (by decide) rfl (fun ls hl => ?_)
                        refine lv_iload hx hb dX7_who_187 (lv_at hl 1 rfl) ?_
                        refine lv_iload hx hb dX7_who_189 (lv_at hl 3 rfl) ?_
                        refine lv_icmp_le (tgt := 199) hx hb dX7_who_191 (by decide) (fun c_22 => ?_) (fun c_22 => ?_)
                        · skip
                          refine lv_iload hx hb dX7_who_199 (lv_at hl 4 rfl) ?_
                          refine lv_istore (lv' := [(10, .int bs), (8, .long (sm + v_21.toInt64)), (13, .int v_21), (12, .int (nI i2)), (11, .int ms), (7, .int (nI (24 * (tn x1) + tn x3))), (6, .int v_13), (0, .ref (E.2.1 251)), (1, .int x1), (2, .int x2), (3, .int x3), (4, .int x4), (5, .int x5)]) hx hb dX7_who_201 hl (by decide) rfl (fun ls hl => ?_)
                          refine lv_iload hx hb dX7_who_203 (lv_at hl 2 rfl) ?_
                          refine lv_iload hx hb dX7_who_205 (lv_at hl 4 rfl) ?_
                          refine lv_icmp_le (tgt := 215) hx hb dX7_who_207 (by decide) (fun c_23 => ?_) (fun c_23 => ?_)
                          · skip
                            refine lv_iload hx hb dX7_who_215 (lv_at hl 4 rfl) ?_
                            refine lv_istore (lv' := [(11, .int ms), (10, .int bs), (8, .long (sm + v_21.toInt64)), (13, .int v_21), (12, .int (nI i2)), (7, .int (nI (24 * (tn x1) + tn x3))), (6, .int v_13), (0, .ref (E.2.1 251)), (1, .int x1), (2, .int x2), (3, .int x3), (4, .int x4), (5, .int x5)]) hx hb dX7_who_217 hl (by decide) rfl (fun ls hl => ?_)
                            refine lv_iinc (v := nI (i2 + 1)) (lv' := [(12, .int (nI (i2 + 1))), (11, .int ms), (10, .int bs), (8, .long (sm + v_21.toInt64)), (13, .int v_21), (7, .int (nI (24 * (tn x1) + tn x3))), (6, .int v_13), (0, .ref (E.2.1 251)), (1, .int x1), (2, .int x2), (3, .int x3), (4, .int x4), (5, .int x5)]) hx hb dX7_who_219 hl (k := 4) rfl (nI_add i2 1) (by decide) rfl (fun ls hl => ?_)
                            refine lv_goto (tgt := 156) hx hb dX7_who_222 (by decide) ?_
                            exact ih156  (i2 + 1) (sm + v_21.toInt64) bs ms (by omega) (by omega) (by subst ev_13; subst ev_21; rw [uWho, ← hbl]; dsimp only; rw [if_pos c_22]) _ _ _ h (lv_sub hl [0, 1, 2, 3, 5, 6, 7, 8, 9, 10, 11, 12] rfl)
                          · skip
                            refine lv_iload hx hb dX7_who_210 (lv_at hl 2 rfl) ?_
                            refine lv_goto (tgt := 217) hx hb dX7_who_212 (by decide) ?_
                            refine lv_istore (lv' := [(11, .int v_21), (10, .int bs), (8, .long (sm + v_21.toInt64)), (13, .int v_21), (12, .int (nI i2)), (7, .int (nI (24 * (tn x1) + tn x3))), (6, .int v_13), (0, .ref (E.2.1 251)), (1, .int x1), (2, .int x2), (3, .int x3), (4, .int x4), (5, .int x5)]) hx hb dX7_who_217 hl (by decide) rfl (fun ls hl => ?_)
                            refine lv_iinc (v := nI (i2 + 1)) (lv' := [(12, .int (nI (i2 + 1))), (11, .int v_21), (10, .int bs), (8, .long (sm + v_21.toInt64)), (13, .int v_21), (7, .int (nI (24 * (tn x1) + tn x3))), (6, .int v_13), (0, .ref (E.2.1 251)), (1, .int x1), (2, .int x2), (3, .int x3), (4, .int x4), (5, .int x5)]) hx hb dX7_who_219 hl (k := 4) rfl (nI_add i2 1) (by decide) rfl (fun ls hl => ?_)
                            refine lv_goto (tgt := 156) hx hb dX7_who_222 (by decide) ?_
                            exact ih156  (i2 + 1) (sm + v_21.toInt64) bs v_21 (by omega) (by omega) (by exact absurd c_22 c_23) _ _ _ h (lv_sub hl [0, 1, 2, 3, 5, 6, 7, 8, 9, 10, 11, 12] rfl)
                        · skip
                          refine lv_iload hx hb dX7_who_194 (lv_at hl 2 rfl) ?_
                          refine lv_goto (tgt := 201) hx hb dX7_who_196 (by decide) ?_
                          refine lv_istore (lv' := [(10, .int (nI i2)), (8, .long (sm + v_21.toInt64)), (13, .int v_21), (12, .int (nI i2)), (11, .int ms), (7, .int (nI (24 * (tn x1) + tn x3))), (6, .int v_13), (0, .ref (E.2.1 251)), (1, .int x1), (2, .int x2), (3, .int x3), (4, .int x4), (5, .int x5)]) hx hb dX7_who_201 hl (by decide) rfl (fun ls hl => ?_)
                          refine lv_iload hx hb dX7_who_203 (lv_at hl 2 rfl) ?_
                          refine lv_iload hx hb dX7_who_205 (lv_at hl 4 rfl) ?_
                          refine lv_icmp_le (tgt := 215) hx hb dX7_who_207 (by decide) (fun c_24 => ?_) (fun c_24 => ?_)
                          · skip
                            refine lv_iload hx hb dX7_who_215 (lv_at hl 4 rfl) ?_
                            refine lv_istore (lv' := [(11, .int ms), (10, .int (nI i2)), (8, .long (sm + v_21.toInt64)), (13, .int v_21), (12, .int (nI i2)), (7, .int (nI (24 * (tn x1) + tn x3))), (6, .int v_13), (0, .ref (E.2.1 251)), (1, .int x1), (2, .int x2), (3, .int x3), (4, .int x4), (5, .int x5)]) hx hb dX7_who_217 hl (by decide) rfl (fun ls hl => ?_)
                            refine lv_iinc (v := nI (i2 + 1)) (lv' := [(12, .int (nI (i2 + 1))), (11, .int ms), (10, .int (nI i2)), (8, .long (sm + v_21.toInt64)), (13, .int v_21), (7, .int (nI (24 * (tn x1) + tn x3))), (6, .int v_13), (0, .ref (E.2.1 251)), (1, .int x1), (2, .int x2), (3, .int x3), (4, .int x4), (5, .int x5)]) hx hb dX7_who_219 hl (k := 4) rfl (nI_add i2 1) (by decide) rfl (fun ls hl => ?_)
                            refine lv_goto (tgt := 156) hx hb dX7_who_222 (by decide) ?_
                            exact ih156  (i2 + 1) (sm + v_21.toInt64) (nI i2) ms (by omega) (by omega) (by exact absurd c_24 c_22) _ _ _ h (lv_sub hl [0, 1, 2, 3, 5, 6, 7, 8, 9, 10, 11, 12] rfl)
                          · skip
                            refine lv_iload hx hb dX7_who_210 (lv_at hl 2 rfl) ?_
                            refine lv_goto (tgt := 217) hx hb dX7_who_212 (by decide) ?_
                            refine lv_istore (lv' := [(11, .int v_21), (10, .int (nI i2)), (8, .long (sm + v_21.toInt64)), (13, .int v_21), (12, .int (nI i2)), (7, .int (nI (24 * (tn x1) + tn x3))), (6, .int v_13), (0, .ref (E.2.1 251)), (1, .int x1), (2, .int x2), (3, .int x3), (4, .int x4), (5, .int x5)]) hx hb dX7_who_217 hl (by decide) rfl (fun ls hl => ?_)
                            refine lv_iinc (v := nI (i2 + 1)) (lv' := [(12, .int (nI (i2 + 1))), (11, .int v_21), (10, .int (nI i2)), (8, .long (sm + v_21.toInt64)), (13, .int v_21), (7, .int (nI (24 * (tn x1) + tn x3))), (6, .int v_13), (0, .ref (E.2.1 251)), (1, .int x1), (2, .int x2), (3, .int x3), (4, .int x4), (5, .int x5)]) hx hb dX7_who_219 hl (k := 4) rfl (nI_add i2 1) (by decide) rfl (fun ls hl => ?_)
                            refine lv_goto (tgt := 156) hx hb dX7_who_222 (by decide) ?_
                            exact ih156  (i2 + 1) (sm + v_21.toInt64) (nI i2) v_21 (by omega) (by omega) (by subst ev_13; subst ev_21; rw [uWho, ← hbl]; dsimp only; rw [if_neg c_22]) _ _ _ h (lv_sub hl [0, 1, 2, 3, 5, 6, 7, 8, 9, 10, 11, 12] rfl)
                  exact lp156 _ 0 0 (-4) (-1) (Nat.lt_succ_self _) (by omega) rfl _ _ _ h (lv_sub hl [0, 1, 2, 3, 4, 5, 6, 7, 8, 9, 10, 11] rfl)
                · skip
                  have c_15 : ¬ (tn x4) ≤ i := fun z => c_15 ((nI_leI (a := (tn x4)) (b := i) (by omega) (by omega)).mpr z)
                  refine lv_aload_n hx hb dX7_who_84 rfl (lv_at hl 3 rfl) ?_
                  refine ur_get C h 251 (by decide) (uc_251 E _) (Cn := RX7) (T := TX7) (N := 17) rfl hin7 15 (by decide) (by decide +kernel) rfl dX7_who_85 ?_
                  refine lv_iload hx hb dX7_who_88 (lv_at hl 1 rfl) ?_
                  refine lv_iconst (v := 2) hx hb dX7_who_90 (by decide) ?_
                  refine lv_iload hx hb dX7_who_91 (lv_at hl 0 rfl) ?_
                  refine lv_imul hx hb dX7_who_93 ?_
                  refine ur_eq (y := nI (2 * i)) (pk_mul 2 i) ?_
                  refine lv_iadd hx hb dX7_who_94 ?_
                  refine ur_eq (y := nI (24 * (tn x1) + tn x3 + 2 * i)) (nI_add (24 * (tn x1) + tn x3) (2 * i)) ?_
                  refine ur_lald C h 261 (by decide) (uc_261 E _) (24 * (tn x1) + tn x3 + 2 * i) (by omega) (by decide) dX7_who_95 ?_
                  refine lv_lconst (v := 0) hx hb dX7_who_96 (by decide) ?_
                  refine lv_aload_n hx hb dX7_who_97 rfl (lv_at hl 3 rfl) ?_
                  refine ur_get C h 251 (by decide) (uc_251 E _) (Cn := RX7) (T := TX7) (N := 17) rfl hin7 0 (by decide) (by decide +kernel) rfl dX7_who_98 ?_
                  refine lv_iconst (v := 1) hx hb dX7_who_101 (by decide) ?_
                  refine ur_iald C h 252 (by decide) (uc_252 E _) (1) (by decide) (by decide) dX7_who_102 ?_
                  refine ur_eq (y := nI nw) (hnw) ?_
                  refine lv_iconst (v := 1) hx hb dX7_who_103 (by decide) ?_
                  refine lv_isub hx hb dX7_who_104 ?_
                  refine lv_i2l (v := ((nI nw) - 1).toInt64) hx hb dX7_who_105 rfl ?_
                  refine ur_callSi C h (As := [.long (M.2.1 261 (24 * (tn x1) + tn x3 + 2 * i)), .long 0, .long (((nI nw) - 1).toInt64)]) (rest := []) (k_X7_in l E hI M (M.2.1 261 (24 * (tn x1) + tn x3 + 2 * i)) 0 (((nI nw) - 1).toInt64)) (va_cwS 3 hts gX7_who_X7_in rfl rfl rfl (by decide +kernel) ⟨Nat.le_of_ble_eq_true rfl, Nat.le_of_ble_eq_true rfl⟩) rfl hl.1 rfl (Nat.le_of_ble_eq_true rfl) dX7_who_106 (fun r_25 M_26 H locs hw_26 h => ?_)
                  obtain ⟨hu, er_25⟩ := hw_26
                  subst hu
                  have er_25 : r_25 = if 0 ≤ (M.2.1 261 (24 * (tn x1) + tn x3 + 2 * i)).toInt ∧ (M.2.1 261 (24 * (tn x1) + tn x3 + 2 * i)).toInt ≤ ((nI nw) - 1).toInt then 1 else 0 := u_in (x := (M.2.1 261 (24 * (tn x1) + tn x3 + 2 * i)).toInt) rfl rfl (u_w _) er_25
                  refine lv_if_eq (tgt := 134) hx hb dX7_who_109 (by decide) (fun c_27 => ?_) (fun c_27 => ?_)
                  · skip
                    have c_27 : ¬ (0 ≤ (M.2.1 261 (24 * (tn x1) + tn x3 + 2 * i)).toInt ∧ (M.2.1 261 (24 * (tn x1) + tn x3 + 2 * i)).toInt ≤ ((nI nw) - 1).toInt) := uz_f er_25 c_27
                    refine lv_bipush (v := (-2)) hx hb dX7_who_134 (by decide) ?_
                    exact ur_iret C h hr hlocks (⟨rfl, by unfold mWho; rw [if_pos ⟨by assumption, by assumption, by assumption, by first | exact Or.inl (by assumption) | exact Or.inr (by assumption)⟩, if_pos (by assumption), if_neg (fun z => by have z1 := of_decide_eq_true (uAll_t z i (by omega)); first | exact c_27 z1.2 | exact c_27 ⟨z1.1.1, by rw [u_pred hnw6]; omega⟩)]⟩) dX7_who_136
                  · skip
                    have c_27 : 0 ≤ (M.2.1 261 (24 * (tn x1) + tn x3 + 2 * i)).toInt ∧ (M.2.1 261 (24 * (tn x1) + tn x3 + 2 * i)).toInt ≤ ((nI nw) - 1).toInt := uz_t er_25 c_27
                    refine lv_aload_n hx hb dX7_who_112 rfl (lv_at hl 3 rfl) ?_
                    refine ur_get C h 251 (by decide) (uc_251 E _) (Cn := RX7) (T := TX7) (N := 17) rfl hin7 15 (by decide) (by decide +kernel) rfl dX7_who_113 ?_
                    refine lv_iload hx hb dX7_who_116 (lv_at hl 1 rfl) ?_
                    refine lv_iconst (v := 2) hx hb dX7_who_118 (by decide) ?_
                    refine lv_iload hx hb dX7_who_119 (lv_at hl 0 rfl) ?_
                    refine lv_imul hx hb dX7_who_121 ?_
                    refine ur_eq (y := nI (2 * i)) (pk_mul 2 i) ?_
                    refine lv_iadd hx hb dX7_who_122 ?_
                    refine ur_eq (y := nI (24 * (tn x1) + tn x3 + 2 * i)) (nI_add (24 * (tn x1) + tn x3) (2 * i)) ?_
                    refine lv_iconst (v := 1) hx hb dX7_who_123 (by decide) ?_
                    refine lv_iadd hx hb dX7_who_124 ?_
                    refine ur_eq (y := nI (24 * (tn x1) + tn x3 + 2 * i + 1)) (nI_add (24 * (tn x1) + tn x3 + 2 * i) 1) ?_
                    refine ur_lald C h 261 (by decide) (uc_261 E _) (24 * (tn x1) + tn x3 + 2 * i + 1) (by omega) (by decide) dX7_who_125 ?_
                    refine lv_lconst (v := 0) hx hb dX7_who_126 (by decide) ?_
                    refine lv_lconst (v := 1) hx hb dX7_who_127 (by decide) ?_
                    refine ur_callSi C h (As := [.long (M.2.1 261 (24 * (tn x1) + tn x3 + 2 * i + 1)), .long 0, .long 1]) (rest := []) (k_X7_in l E hI M (M.2.1 261 (24 * (tn x1) + tn x3 + 2 * i + 1)) 0 1) (va_cwS 3 hts gX7_who_X7_in rfl rfl rfl (by decide +kernel) ⟨Nat.le_of_ble_eq_true rfl, Nat.le_of_ble_eq_true rfl⟩) rfl hl.1 rfl (Nat.le_of_ble_eq_true rfl) dX7_who_128 (fun r_28 M_29 H locs hw_29 h => ?_)
                    obtain ⟨hu, er_28⟩ := hw_29
                    subst hu
                    have er_28 : r_28 = if 0 ≤ (M.2.1 261 (24 * (tn x1) + tn x3 + 2 * i + 1)).toInt ∧ (M.2.1 261 (24 * (tn x1) + tn x3 + 2 * i + 1)).toInt ≤ 1 then 1 else 0 := u_in (x := (M.2.1 261 (24 * (tn x1) + tn x3 + 2 * i + 1)).toInt) rfl rfl rfl er_28
                    refine lv_if_ne (tgt := 137) hx hb dX7_who_131 (by decide) (fun c_30 => ?_) (fun c_30 => ?_)
                    · skip
                      have c_30 : 0 ≤ (M.2.1 261 (24 * (tn x1) + tn x3 + 2 * i + 1)).toInt ∧ (M.2.1 261 (24 * (tn x1) + tn x3 + 2 * i + 1)).toInt ≤ 1 := uz_t er_28 c_30
                      refine lv_iinc (v := nI (i + 1)) (lv' := [(8, .int (nI (i + 1))), (7, .int (nI (24 * (tn x1) + tn x3))), (6, .int v_13), (0, .ref (E.2.1 251)), (1, .int x1), (2, .int x2), (3, .int x3), (4, .int x4), (5, .int x5)]) hx hb dX7_who_137 hl (k := 0) rfl (nI_add i 1) (by decide) rfl (fun ls hl => ?_)
                      refine lv_goto (tgt := 77) hx hb dX7_who_140 (by decide) ?_
                      exact ih77  (i + 1) (by omega) (by omega) (by rw [uAll, hto, Bool.true_and]; exact decide_eq_true ⟨⟨c_27.1, by have := c_27.2; rw [u_pred hnw6] at this; omega⟩, c_30⟩) _ _ _ h (lv_sub hl [0, 1, 2, 3, 4, 5, 6, 7, 8] rfl)
                    · skip
                      have c_30 : ¬ (0 ≤ (M.2.1 261 (24 * (tn x1) + tn x3 + 2 * i + 1)).toInt ∧ (M.2.1 261 (24 * (tn x1) + tn x3 + 2 * i + 1)).toInt ≤ 1) := uz_f er_28 c_30
                      refine lv_bipush (v := (-2)) hx hb dX7_who_134 (by decide) ?_
                      exact ur_iret C h hr hlocks (⟨rfl, by unfold mWho; rw [if_pos ⟨by assumption, by assumption, by assumption, by first | exact Or.inl (by assumption) | exact Or.inr (by assumption)⟩, if_pos (by assumption), if_neg (fun z => by have z1 := of_decide_eq_true (uAll_t z i (by omega)); first | exact c_30 z1.2 | exact c_30 ⟨z1.1.1, by rw [u_pred hnw6]; omega⟩)]⟩) dX7_who_136
            exact lp77 _ 0 (Nat.lt_succ_self _) (by omega) rfl _ _ _ h (lv_sub hl [0, 1, 2, 3, 4, 5, 6, 7, 8] rfl)
          · skip
            refine lv_iload hx hb dX7_who_63 (lv_at hl 0 rfl) ?_
            exact ur_iret C h hr hlocks (⟨rfl, by subst ev_13; unfold mWho; rw [if_pos ⟨by assumption, by assumption, by assumption, by first | exact Or.inl (by assumption) | exact Or.inr (by assumption)⟩, if_neg (by assumption)]⟩) dX7_who_65
        · skip
          refine lv_aload_n hx hb dX7_who_34 rfl (lv_at hl 0 rfl) ?_
          refine lv_iload hx hb dX7_who_35 (lv_at hl 5 rfl) ?_
          refine ur_callVi C h (k := 251) (As := [.int x5]) (rest := []) (k_X7_isSpeaker l E hI M x5 n hn hn6) (cwV 1 hts gX7_who_X7_isSpeaker rfl rfl rfl (by decide +kernel) ⟨Nat.le_of_ble_eq_true rfl, Nat.le_of_ble_eq_true rfl⟩) (by decide) (uc_251 E _) (T := TX7) (N := 17) rfl rfl hl.1 rfl (Nat.le_of_ble_eq_true rfl) dX7_who_37 (fun r_31 M_32 H locs hw_32 h => ?_)
          obtain ⟨hu, er_31⟩ := hw_32
          subst hu
          refine lv_if_ne (tgt := 45) hx hb dX7_who_40 (by decide) (fun c_33 => ?_) (fun c_33 => ?_)
          · skip
            have c_33 : 0 ≤ x5.toInt ∧ x5.toInt < n := uz_t er_31 c_33
            obtain ⟨hnx1, enx1⟩ := u_tn (x := x1) (n := 4) ⟨by omega, by omega⟩ (by omega)
            obtain ⟨hnx4, enx4⟩ := u_tn (x := x4) (n := 9) ⟨by omega, by omega⟩ (by omega)
            refine lv_aload_n hx hb dX7_who_45 rfl (lv_at hl 0 rfl) ?_
            refine lv_iload_n hx hb dX7_who_46 rfl (lv_at hl 1 rfl) ?_
            refine ur_eq (y := nI (tn x1)) enx1 ?_
            refine lv_iload_n hx hb dX7_who_47 rfl (lv_at hl 2 rfl) ?_
            refine lv_iload_n hx hb dX7_who_48 rfl (lv_at hl 3 rfl) ?_
            refine lv_iconst (v := 2) hx hb dX7_who_49 (by decide) ?_
            refine lv_iload hx hb dX7_who_50 (lv_at hl 4 rfl) ?_
            refine ur_eq (y := nI (tn x4)) enx4 ?_
            refine lv_imul hx hb dX7_who_52 ?_
            refine ur_eq (y := nI (2 * (tn x4))) (pk_mul 2 (tn x4)) ?_
            refine ur_callVi C h (k := 251) (As := [.int (nI (tn x1)), .int x2, .int x3, .int (nI (2 * (tn x4)))]) (rest := []) (k_X7_why l E hI M (tn x1) x2 x3 (nI (2 * (tn x4))) (by omega)) (cwV 4 hts gX7_who_X7_why rfl rfl rfl (by decide +kernel) ⟨Nat.le_of_ble_eq_true rfl, Nat.le_of_ble_eq_true rfl⟩) (by decide) (uc_251 E _) (T := TX7) (N := 17) rfl rfl hl.1 rfl (Nat.le_of_ble_eq_true rfl) dX7_who_53 (fun r_34 M_35 H locs hw_35 h => ?_)
            obtain ⟨hu, er_34⟩ := hw_35
            subst hu
            refine ur_eq (y := mWhyS M (tn x1) x2 x3 (nI (2 * (tn x4)))) er_34 ?_
            refine lv_topi (fun v_36 ev_36 => ?_)
            refine lv_istore (lv' := [(6, .int v_36), (0, .ref (E.2.1 251)), (1, .int x1), (2, .int x2), (3, .int x3), (4, .int x4), (5, .int x5)]) hx hb dX7_who_56 hl (by decide) rfl (fun ls hl => ?_)
            refine lv_iload hx hb dX7_who_58 (lv_at hl 0 rfl) ?_
            refine lv_if_ge (tgt := 66) hx hb dX7_who_60 (by decide) (fun c_37 => ?_) (fun c_37 => ?_)
            · skip
              have hwy : 0 ≤ mWhyS M (tn x1) x2 x3 (nI (2 * tn x4)) := ev_36 ▸ c_37
              obtain ⟨hy1, hy2, hy3, hy4, hy5⟩ := mWhyS_ok hwy
              have hy6 := hsz (tn x1) (by omega)
              rw [nI_toInt (n := 2 * tn x4) (by omega)] at hy3
              obtain ⟨hnx3, enx3⟩ := u_tn (x := x3) (n := 25) ⟨by omega, by omega⟩ (by omega)
              have hx3 : (tn x3 : Int) = x3.toInt := by unfold tn; omega
              refine lv_bipush (v := 24) hx hb dX7_who_66 (by decide) ?_
              refine lv_iload_n hx hb dX7_who_68 rfl (lv_at hl 2 rfl) ?_
              refine ur_eq (y := nI (tn x1)) enx1 ?_
              refine lv_imul hx hb dX7_who_69 ?_
              refine ur_eq (y := nI (24 * (tn x1))) (pk_mul 24 (tn x1)) ?_
              refine lv_iload_n hx hb dX7_who_70 rfl (lv_at hl 4 rfl) ?_
              refine ur_eq (y := nI (tn x3)) enx3 ?_
              refine lv_iadd hx hb dX7_who_71 ?_
              refine ur_eq (y := nI (24 * (tn x1) + tn x3)) (nI_add (24 * (tn x1)) (tn x3)) ?_
              refine lv_istore (lv' := [(7, .int (nI (24 * (tn x1) + tn x3))), (6, .int v_36), (0, .ref (E.2.1 251)), (1, .int x1), (2, .int x2), (3, .int x3), (4, .int x4), (5, .int x5)]) hx hb dX7_who_72 hl (by decide) rfl (fun ls hl => ?_)
              refine lv_iconst (v := 0) hx hb dX7_who_74 (by decide) ?_
              refine lv_istore (lv' := [(8, .int 0), (7, .int (nI (24 * (tn x1) + tn x3))), (6, .int v_36), (0, .ref (E.2.1 251)), (1, .int x1), (2, .int x2), (3, .int x3), (4, .int x4), (5, .int x5)]) hx hb dX7_who_75 hl (by decide) rfl (fun ls hl => ?_)
              have lp77 : ∀ (n77 : Nat) (i : Nat), tn x4 - i < n77 → i ≤ tn x4 → uAll (mTold M nw (24 * tn x1 + tn x3)) true i = true → ∀ (H : Heap) (locs : List Loc) (ls : Array Slot), uH E M s_ H locs → lv_has ls 14 [(8, .int (nI i)), (7, .int (nI (24 * (tn x1) + tn x3))), (6, .int v_36), (0, .ref (E.2.1 251)), (1, .int x1), (2, .int x2), (3, .int x3), (4, .int x4), (5, .int x5)] → W p_ l e_ ({ frames := 6, cells := 0, slots := 0, locals := 149 }) s_ m_ (List.toArray [.ref (E.2.1 251), .int x1, .int x2, .int x3, .int x4, .int x5]) bl_ me_ c_ H locs 0 0 (MQ bl_ (va_Qi (fun r u => M = u ∧ r = mWho M n nw x1 x2 x3 x4 x5) (uP E) (uA E)) (List.toArray [.ref (E.2.1 251), .int x1, .int x2, .int x3, .int x4, .int x5]) s_ 0 0 (uA E)) (F0 m_ 77 ls []) := by
                intro n77
                induction n77 with
                | zero => intro i hms; exact absurd hms (Nat.not_lt_zero _)
                | succ n77 ih77 =>
                  intro i hms77 hi hto H locs ls h hl
                  refine lv_iload hx hb dX7_who_77 (lv_at hl 0 rfl) ?_
                  refine lv_iload hx hb dX7_who_79 (lv_at hl 7 rfl) ?_
                  refine ur_eq (y := nI (tn x4)) enx4 ?_
                  refine lv_icmp_ge (tgt := 143) hx hb dX7_who_81 (by decide) (fun c_38 => ?_) (fun c_38 => ?_)
                  · skip
                    have c_38 : (tn x4) ≤ i := (nI_leI (a := (tn x4)) (b := i) (by omega) (by omega)).mp c_38
                    have hwd : ∀ k, k < tn x4 → tn (M.2.1 261 (24 * tn x1 + tn x3 + 2 * k)).toInt32 < 6 ∧ (M.2.1 261 (24 * tn x1 + tn x3 + 2 * k)).toInt32 = nI (tn (M.2.1 261 (24 * tn x1 + tn x3 + 2 * k)).toInt32) := fun k hk => by
                      have hk1 := of_decide_eq_true (uAll_t (show uAll (mTold M nw (24 * tn x1 + tn x3)) true (tn x4) = true from by rw [← show i = tn x4 by omega]; exact hto) k hk)
                      have hk2 := u_l2i hk1.1 (by omega)
                      exact ⟨by omega, hk2.2⟩
                    refine lv_lconst (v := 0) hx hb dX7_who_143 (by decide) ?_
                    refine lv_lstore (lv' := [(8, .long 0), (7, .int (nI (24 * (tn x1) + tn x3))), (6, .int v_36), (0, .ref (E.2.1 251)), (1, .int x1), (2, .int x2), (3, .int x3), (4, .int x4), (5, .int x5)]) hx hb dX7_who_144 hl (by decide) rfl (fun ls hl => ?_)
                    refine lv_bipush (v := (-4)) hx hb dX7_who_146 (by decide) ?_
                    refine lv_istore (lv' := [(10, .int (-4)), (8, .long 0), (7, .int (nI (24 * (tn x1) + tn x3))), (6, .int v_36), (0, .ref (E.2.1 251)), (1, .int x1), (2, .int x2), (3, .int x3), (4, .int x4), (5, .int x5)]) hx hb dX7_who_148 hl (by decide) rfl (fun ls hl => ?_)
                    refine lv_iconst (v := (-1)) hx hb dX7_who_150 (by decide) ?_
                    refine lv_istore (lv' := [(11, .int (-1)), (10, .int (-4)), (8, .long 0), (7, .int (nI (24 * (tn x1) + tn x3))), (6, .int v_36), (0, .ref (E.2.1 251)), (1, .int x1), (2, .int x2), (3, .int x3), (4, .int x4), (5, .int x5)]) hx hb dX7_who_151 hl (by decide) rfl (fun ls hl => ?_)
                    refine lv_iconst (v := 0) hx hb dX7_who_153 (by decide) ?_
                    refine lv_istore (lv' := [(12, .int 0), (11, .int (-1)), (10, .int (-4)), (8, .long 0), (7, .int (nI (24 * (tn x1) + tn x3))), (6, .int v_36), (0, .ref (E.2.1 251)), (1, .int x1), (2, .int x2), (3, .int x3), (4, .int x4), (5, .int x5)]) hx hb dX7_who_154 hl (by decide) rfl (fun ls hl => ?_)
                    have lp156 : ∀ (n156 : Nat) (i2 : Nat) (sm : Int64) (bs ms : Int32), n - i2 < n156 → i2 ≤ n → (sm, bs, ms) = uWho (mLike M (24 * tn x1 + tn x3) (tn x4)) i2 → ∀ (H : Heap) (locs : List Loc) (ls : Array Slot), uH E M s_ H locs → lv_has ls 14 [(12, .int (nI i2)), (11, .int ms), (10, .int bs), (8, .long sm), (7, .int (nI (24 * (tn x1) + tn x3))), (6, .int v_36), (0, .ref (E.2.1 251)), (1, .int x1), (2, .int x2), (3, .int x3), (4, .int x4), (5, .int x5)] → W p_ l e_ ({ frames := 6, cells := 0, slots := 0, locals := 149 }) s_ m_ (List.toArray [.ref (E.2.1 251), .int x1, .int x2, .int x3, .int x4, .int x5]) bl_ me_ c_ H locs 0 0 (MQ bl_ (va_Qi (fun r u => M = u ∧ r = mWho M n nw x1 x2 x3 x4 x5) (uP E) (uA E)) (List.toArray [.ref (E.2.1 251), .int x1, .int x2, .int x3, .int x4, .int x5]) s_ 0 0 (uA E)) (F0 m_ 156 ls []) := by
                      intro n156
                      induction n156 with
                      | zero => intro i2 sm bs ms hms; exact absurd hms (Nat.not_lt_zero _)
                      | succ n156 ih156 =>
                        intro i2 sm bs ms hms156 hi2 hbl H locs ls h hl
                        refine lv_iload hx hb dX7_who_156 (lv_at hl 0 rfl) ?_
                        refine lv_aload_n hx hb dX7_who_158 rfl (lv_at hl 6 rfl) ?_
                        refine ur_get C h 251 (by decide) (uc_251 E _) (Cn := RX7) (T := TX7) (N := 17) rfl hin7 0 (by decide) (by decide +kernel) rfl dX7_who_159 ?_
                        refine lv_iconst (v := 0) hx hb dX7_who_162 (by decide) ?_
                        refine ur_iald C h 252 (by decide) (uc_252 E _) (0) (by decide) (by decide) dX7_who_163 ?_
                        refine ur_eq (y := nI n) (hn) ?_
                        refine lv_icmp_ge (tgt := 225) hx hb dX7_who_164 (by decide) (fun c_39 => ?_) (fun c_39 => ?_)
                        · skip
                          have c_39 : n ≤ i2 := (nI_leI (a := n) (b := i2) (by omega) (by omega)).mp c_39
                          refine lv_iload hx hb dX7_who_225 (lv_at hl 11 rfl) ?_
                          refine lv_bipush (v := (-4)) hx hb dX7_who_227 (by decide) ?_
                          refine lv_icmp_ne (tgt := 235) hx hb dX7_who_229 (by decide) (fun c_40 => ?_) (fun c_40 => ?_)
                          · skip
                            refine lv_lload hx hb dX7_who_235 (lv_at hl 3 rfl) ?_
                            refine lv_lconst (v := 0) hx hb dX7_who_237 (by decide) ?_
                            refine W.lcmp hx hb dX7_who_238 ?_
                            refine lv_if_ne (tgt := 246) hx hb dX7_who_239 (by decide) (fun c_41 => ?_) (fun c_41 => ?_)
                            · skip
                              have c_41 : ¬ sm = 0 := (ul_ne sm 0).mp c_41
                              obtain ⟨hnx5, enx5⟩ := u_tn c_33 (by omega)
                              refine lv_aload_n hx hb dX7_who_246 rfl (lv_at hl 6 rfl) ?_
                              refine lv_iload hx hb dX7_who_247 (lv_at hl 11 rfl) ?_
                              refine ur_eq (y := nI (tn x5)) enx5 ?_
                              refine lv_iload hx hb dX7_who_249 (lv_at hl 4 rfl) ?_
                              refine lv_iload hx hb dX7_who_251 (lv_at hl 10 rfl) ?_
                              refine ur_eq (y := nI (tn x4)) enx4 ?_
                              refine ur_callVi C h (k := 251) (As := [.int (nI (tn x5)), .int (nI (24 * (tn x1) + tn x3)), .int (nI (tn x4))]) (rest := []) (k_X7_likeOf l E hI M (tn x5) (24 * (tn x1) + tn x3) (tn x4) (by omega) (by omega) hwd ht) (cwV 3 hts gX7_who_X7_likeOf rfl rfl rfl (by decide +kernel) ⟨Nat.le_of_ble_eq_true rfl, Nat.le_of_ble_eq_true rfl⟩) (by decide) (uc_251 E _) (T := TX7) (N := 17) rfl rfl hl.1 rfl (Nat.le_of_ble_eq_true rfl) dX7_who_253 (fun r_42 M_43 H locs hw_43 h => ?_)
                              obtain ⟨hu, er_42⟩ := hw_43
                              subst hu
                              refine ur_eq (y := mLike M (24 * (tn x1) + tn x3) (tn x4) (tn x5)) er_42 ?_
                              refine lv_i2l (v := (mLike M (24 * (tn x1) + tn x3) (tn x4) (tn x5)).toInt64) hx hb dX7_who_256 rfl ?_
                              refine lv_ldc2 (v := 1000000) hx hb hown (hts (.constantLong RX7 179 1000000) (by decide +kernel)) dX7_who_257 ?_
                              refine lv_lmul hx hb dX7_who_260 ?_
                              refine lv_lload hx hb dX7_who_261 (lv_at hl 3 rfl) ?_
                              refine lv_ldiv hx hb dX7_who_263 (by assumption) ?_
                              refine lv_l2i (v := ((((mLike M (24 * (tn x1) + tn x3) (tn x4) (tn x5)).toInt64) * 1000000) / sm).toInt32) hx hb dX7_who_264 rfl ?_
                              exact ur_iret C h hr hlocks (⟨rfl, by unfold mWho; rw [if_pos ⟨by assumption, by assumption, by assumption, by first | exact Or.inl (by assumption) | exact Or.inr (by assumption)⟩, if_pos (by assumption), if_pos (show uAll (mTold M nw (24 * tn x1 + tn x3)) true (tn x4) = true from by rw [← show i = tn x4 by omega]; exact hto), if_neg (by assumption), ← show i2 = n by omega, ← hbl, if_neg (by assumption)]⟩) dX7_who_265
                            · skip
                              have c_41 : sm = 0 := (ul_eq sm 0).mp c_41
                              refine lv_iconst (v := 0) hx hb dX7_who_242 (by decide) ?_
                              refine lv_goto (tgt := 265) hx hb dX7_who_243 (by decide) ?_
                              exact ur_iret C h hr hlocks (⟨rfl, by unfold mWho; rw [if_pos ⟨by assumption, by assumption, by assumption, by first | exact Or.inl (by assumption) | exact Or.inr (by assumption)⟩, if_pos (by assumption), if_pos (show uAll (mTold M nw (24 * tn x1 + tn x3)) true (tn x4) = true from by rw [← show i = tn x4 by omega]; exact hto), if_neg (by assumption), ← show i2 = n by omega, ← hbl, if_pos (by assumption)]⟩) dX7_who_265
                          · skip
                            refine lv_iload hx hb dX7_who_232 (lv_at hl 2 rfl) ?_
                            exact ur_iret C h hr hlocks (⟨rfl, by unfold mWho; rw [if_pos ⟨by assumption, by assumption, by assumption, by first | exact Or.inl (by assumption) | exact Or.inr (by assumption)⟩, if_pos (by assumption), if_pos (show uAll (mTold M nw (24 * tn x1 + tn x3)) true (tn x4) = true from by rw [← show i = tn x4 by omega]; exact hto), if_pos (by assumption), ← show i2 = n by omega, ← hbl]⟩) dX7_who_234
                        · skip
                          have c_39 : ¬ n ≤ i2 := fun z => c_39 ((nI_leI (a := n) (b := i2) (by omega) (by omega)).mpr z)
                          refine lv_aload_n hx hb dX7_who_167 rfl (lv_at hl 6 rfl) ?_
                          refine lv_iload hx hb dX7_who_168 (lv_at hl 0 rfl) ?_
                          refine lv_iload hx hb dX7_who_170 (lv_at hl 4 rfl) ?_
                          refine lv_iload hx hb dX7_who_172 (lv_at hl 10 rfl) ?_
                          refine ur_eq (y := nI (tn x4)) enx4 ?_
                          refine ur_callVi C h (k := 251) (As := [.int (nI i2), .int (nI (24 * (tn x1) + tn x3)), .int (nI (tn x4))]) (rest := []) (k_X7_likeOf l E hI M i2 (24 * (tn x1) + tn x3) (tn x4) (by omega) (by omega) hwd ht) (cwV 3 hts gX7_who_X7_likeOf rfl rfl rfl (by decide +kernel) ⟨Nat.le_of_ble_eq_true rfl, Nat.le_of_ble_eq_true rfl⟩) (by decide) (uc_251 E _) (T := TX7) (N := 17) rfl rfl hl.1 rfl (Nat.le_of_ble_eq_true rfl) dX7_who_174 (fun r_44 M_45 H locs hw_45 h => ?_)
                          obtain ⟨hu, er_44⟩ := hw_45
                          subst hu
                          refine ur_eq (y := mLike M (24 * (tn x1) + tn x3) (tn x4) i2) er_44 ?_
                          refine lv_topi (fun v_46 ev_46 => ?_)
                          refine lv_istore (lv' := [(13, .int v_46), (12, .int (nI i2)), (11, .int ms), (10, .int bs), (8, .long sm), (7, .int (nI (24 * (tn x1) + tn x3))), (6, .int v_36), (0, .ref (E.2.1 251)), (1, .int x1), (2, .int x2), (3, .int x3), (4, .int x4), (5, .int x5)]) hx hb dX7_who_177 hl (by decide) rfl (fun ls hl => ?_)
                          refine lv_lload hx hb dX7_who_179 (lv_at hl 4 rfl) ?_
                          refine lv_iload hx hb dX7_who_181 (lv_at hl 0 rfl) ?_
                          refine lv_i2l (v := v_46.toInt64) hx hb dX7_who_183 rfl ?_
                          refine lv_ladd hx hb dX7_who_184 ?_
                          refine lv_lstore (lv' := [(8, .long (sm + v_46.toInt64)), (13, .int v_46), (12, .int (nI i2)), (11, .int ms), (10, .int bs), (7, .int (nI (24 * (tn x1) + tn x3))), (6, .int v_36), (0, .ref (E.2.1 251)), (1, .int x1), (2, .int x2), (3, .int x3), (4, .int x4), (5, .int x5)]) hx hb dX7_who_185 hl (by decide) rfl (fun ls hl => ?_)
                          refine lv_iload hx hb dX7_who_187 (lv_at hl 1 rfl) ?_
                          refine lv_iload hx hb dX7_who_189 (lv_at hl 3 rfl) ?_
                          refine lv_icmp_le (tgt := 199) hx hb dX7_who_191 (by decide) (fun c_47 => ?_) (fun c_47 => ?_)
                          · skip
                            refine lv_iload hx hb dX7_who_199 (lv_at hl 4 rfl) ?_
                            refine lv_istore (lv' := [(10, .int bs), (8, .long (sm + v_46.toInt64)), (13, .int v_46), (12, .int (nI i2)), (11, .int ms), (7, .int (nI (24 * (tn x1) + tn x3))), (6, .int v_36), (0, .ref (E.2.1 251)), (1, .int x1), (2, .int x2), (3, .int x3), (4, .int x4), (5, .int x5)]) hx hb dX7_who_201 hl (by decide) rfl (fun ls hl => ?_)
                            refine lv_iload hx hb dX7_who_203 (lv_at hl 2 rfl) ?_
                            refine lv_iload hx hb dX7_who_205 (lv_at hl 4 rfl) ?_
                            refine lv_icmp_le (tgt := 215) hx hb dX7_who_207 (by decide) (fun c_48 => ?_) (fun c_48 => ?_)
                            · skip
                              refine lv_iload hx hb dX7_who_215 (lv_at hl 4 rfl) ?_
                              refine lv_istore (lv' := [(11, .int ms), (10, .int bs), (8, .long (sm + v_46.toInt64)), (13, .int v_46), (12, .int (nI i2)), (7, .int (nI (24 * (tn x1) + tn x3))), (6, .int v_36), (0, .ref (E.2.1 251)), (1, .int x1), (2, .int x2), (3, .int x3), (4, .int x4), (5, .int x5)]) hx hb dX7_who_217 hl (by decide) rfl (fun ls hl => ?_)
                              refine lv_iinc (v := nI (i2 + 1)) (lv' := [(12, .int (nI (i2 + 1))), (11, .int ms), (10, .int bs), (8, .long (sm + v_46.toInt64)), (13, .int v_46), (7, .int (nI (24 * (tn x1) + tn x3))), (6, .int v_36), (0, .ref (E.2.1 251)), (1, .int x1), (2, .int x2), (3, .int x3), (4, .int x4), (5, .int x5)]) hx hb dX7_who_219 hl (k := 4) rfl (nI_add i2 1) (by decide) rfl (fun ls hl => ?_)
                              refine lv_goto (tgt := 156) hx hb dX7_who_222 (by decide) ?_
                              exact ih156  (i2 + 1) (sm + v_46.toInt64) bs ms (by omega) (by omega) (by subst ev_36; subst ev_46; rw [uWho, ← hbl]; dsimp only; rw [if_pos c_47]) _ _ _ h (lv_sub hl [0, 1, 2, 3, 5, 6, 7, 8, 9, 10, 11, 12] rfl)
                            · skip
                              refine lv_iload hx hb dX7_who_210 (lv_at hl 2 rfl) ?_
                              refine lv_goto (tgt := 217) hx hb dX7_who_212 (by decide) ?_
                              refine lv_istore (lv' := [(11, .int v_46), (10, .int bs), (8, .long (sm + v_46.toInt64)), (13, .int v_46), (12, .int (nI i2)), (7, .int (nI (24 * (tn x1) + tn x3))), (6, .int v_36), (0, .ref (E.2.1 251)), (1, .int x1), (2, .int x2), (3, .int x3), (4, .int x4), (5, .int x5)]) hx hb dX7_who_217 hl (by decide) rfl (fun ls hl => ?_)
                              refine lv_iinc (v := nI (i2 + 1)) (lv' := [(12, .int (nI (i2 + 1))), (11, .int v_46), (10, .int bs), (8, .long (sm + v_46.toInt64)), (13, .int v_46), (7, .int (nI (24 * (tn x1) + tn x3))), (6, .int v_36), (0, .ref (E.2.1 251)), (1, .int x1), (2, .int x2), (3, .int x3), (4, .int x4), (5, .int x5)]) hx hb dX7_who_219 hl (k := 4) rfl (nI_add i2 1) (by decide) rfl (fun ls hl => ?_)
                              refine lv_goto (tgt := 156) hx hb dX7_who_222 (by decide) ?_
                              exact ih156  (i2 + 1) (sm + v_46.toInt64) bs v_46 (by omega) (by omega) (by exact absurd c_47 c_48) _ _ _ h (lv_sub hl [0, 1, 2, 3, 5, 6, 7, 8, 9, 10, 11, 12] rfl)
                          · skip
                            refine lv_iload hx hb dX7_who_194 (lv_at hl 2 rfl) ?_
                            refine lv_goto (tgt := 201) hx hb dX7_who_196 (by decide) ?_
                            refine lv_istore (lv' := [(10, .int (nI i2)), (8, .long (sm + v_46.toInt64)), (13, .int v_46), (12, .int (nI i2)), (11, .int ms), (7, .int (nI (24 * (tn x1) + tn x3))), (6, .int v_36), (0, .ref (E.2.1 251)), (1, .int x1), (2, .int x2), (3, .int x3), (4, .int x4), (5, .int x5)]) hx hb dX7_who_201 hl (by decide) rfl (fun ls hl => ?_)
                            refine lv_iload hx hb dX7_who_203 (lv_at hl 2 rfl) ?_
                            refine lv_iload hx hb dX7_who_205 (lv_at hl 4 rfl) ?_
                            refine lv_icmp_le (tgt := 215) hx hb dX7_who_207 (by decide) (fun c_49 => ?_) (fun c_49 => ?_)
                            · skip
                              refine lv_iload hx hb dX7_who_215 (lv_at hl 4 rfl) ?_
                              refine lv_istore (lv' := [(11, .int ms), (10, .int (nI i2)), (8, .long (sm + v_46.toInt64)), (13, .int v_46), (12, .int (nI i2)), (7, .int (nI (24 * (tn x1) + tn x3))), (6, .int v_36), (0, .ref (E.2.1 251)), (1, .int x1), (2, .int x2), (3, .int x3), (4, .int x4), (5, .int x5)]) hx hb dX7_who_217 hl (by decide) rfl (fun ls hl => ?_)
                              refine lv_iinc (v := nI (i2 + 1)) (lv' := [(12, .int (nI (i2 + 1))), (11, .int ms), (10, .int (nI i2)), (8, .long (sm + v_46.toInt64)), (13, .int v_46), (7, .int (nI (24 * (tn x1) + tn x3))), (6, .int v_36), (0, .ref (E.2.1 251)), (1, .int x1), (2, .int x2), (3, .int x3), (4, .int x4), (5, .int x5)]) hx hb dX7_who_219 hl (k := 4) rfl (nI_add i2 1) (by decide) rfl (fun ls hl => ?_)
                              refine lv_goto (tgt := 156) hx hb dX7_who_222 (by decide) ?_
                              exact ih156  (i2 + 1) (sm + v_46.toInt64) (nI i2) ms (by omega) (by omega) (by exact absurd c_49 c_47) _ _ _ h (lv_sub hl [0, 1, 2, 3, 5, 6, 7, 8, 9, 10, 11, 12] rfl)
                            · skip
                              refine lv_iload hx hb dX7_who_210 (lv_at hl 2 rfl) ?_
                              refine lv_goto (tgt := 217) hx hb dX7_who_212 (by decide) ?_
                              refine lv_istore (lv' := [(11, .int v_46), (10, .int (nI i2)), (8, .long (sm + v_46.toInt64)), (13, .int v_46), (12, .int (nI i2)), (7, .int (nI (24 * (tn x1) + tn x3))), (6, .int v_36), (0, .ref (E.2.1 251)), (1, .int x1), (2, .int x2), (3, .int x3), (4, .int x4), (5, .int x5)]) hx hb dX7_who_217 hl (by decide) rfl (fun ls hl => ?_)
                              refine lv_iinc (v := nI (i2 + 1)) (lv' := [(12, .int (nI (i2 + 1))), (11, .int v_46), (10, .int (nI i2)), (8, .long (sm + v_46.toInt64)), (13, .int v_46), (7, .int (nI (24 * (tn x1) + tn x3))), (6, .int v_36), (0, .ref (E.2.1 251)), (1, .int x1), (2, .int x2), (3, .int x3), (4, .int x4), (5, .int x5)]) hx hb dX7_who_219 hl (k := 4) rfl (nI_add i2 1) (by decide) rfl (fun ls hl => ?_)
                              refine lv_goto (tgt := 156) hx hb dX7_who_222 (by decide) ?_
                              exact ih156  (i2 + 1) (sm + v_46.toInt64) (nI i2) v_46 (by omega) (by omega) (by subst ev_36; subst ev_46; rw [uWho, ← hbl]; dsimp only; rw [if_neg c_47]) _ _ _ h (lv_sub hl [0, 1, 2, 3, 5, 6, 7, 8, 9, 10, 11, 12] rfl)
                    exact lp156 _ 0 0 (-4) (-1) (Nat.lt_succ_self _) (by omega) rfl _ _ _ h (lv_sub hl [0, 1, 2, 3, 4, 5, 6, 7, 8, 9, 10, 11] rfl)
                  · skip
                    have c_38 : ¬ (tn x4) ≤ i := fun z => c_38 ((nI_leI (a := (tn x4)) (b := i) (by omega) (by omega)).mpr z)
                    refine lv_aload_n hx hb dX7_who_84 rfl (lv_at hl 3 rfl) ?_
                    refine ur_get C h 251 (by decide) (uc_251 E _) (Cn := RX7) (T := TX7) (N := 17) rfl hin7 15 (by decide) (by decide +kernel) rfl dX7_who_85 ?_
                    refine lv_iload hx hb dX7_who_88 (lv_at hl 1 rfl) ?_
                    refine lv_iconst (v := 2) hx hb dX7_who_90 (by decide) ?_
                    refine lv_iload hx hb dX7_who_91 (lv_at hl 0 rfl) ?_
                    refine lv_imul hx hb dX7_who_93 ?_
                    refine ur_eq (y := nI (2 * i)) (pk_mul 2 i) ?_
                    refine lv_iadd hx hb dX7_who_94 ?_
                    refine ur_eq (y := nI (24 * (tn x1) + tn x3 + 2 * i)) (nI_add (24 * (tn x1) + tn x3) (2 * i)) ?_
                    refine ur_lald C h 261 (by decide) (uc_261 E _) (24 * (tn x1) + tn x3 + 2 * i) (by omega) (by decide) dX7_who_95 ?_
                    refine lv_lconst (v := 0) hx hb dX7_who_96 (by decide) ?_
                    refine lv_aload_n hx hb dX7_who_97 rfl (lv_at hl 3 rfl) ?_
                    refine ur_get C h 251 (by decide) (uc_251 E _) (Cn := RX7) (T := TX7) (N := 17) rfl hin7 0 (by decide) (by decide +kernel) rfl dX7_who_98 ?_
                    refine lv_iconst (v := 1) hx hb dX7_who_101 (by decide) ?_
                    refine ur_iald C h 252 (by decide) (uc_252 E _) (1) (by decide) (by decide) dX7_who_102 ?_
                    refine ur_eq (y := nI nw) (hnw) ?_
                    refine lv_iconst (v := 1) hx hb dX7_who_103 (by decide) ?_
                    refine lv_isub hx hb dX7_who_104 ?_
                    refine lv_i2l (v := ((nI nw) - 1).toInt64) hx hb dX7_who_105 rfl ?_
                    refine ur_callSi C h (As := [.long (M.2.1 261 (24 * (tn x1) + tn x3 + 2 * i)), .long 0, .long (((nI nw) - 1).toInt64)]) (rest := []) (k_X7_in l E hI M (M.2.1 261 (24 * (tn x1) + tn x3 + 2 * i)) 0 (((nI nw) - 1).toInt64)) (va_cwS 3 hts gX7_who_X7_in rfl rfl rfl (by decide +kernel) ⟨Nat.le_of_ble_eq_true rfl, Nat.le_of_ble_eq_true rfl⟩) rfl hl.1 rfl (Nat.le_of_ble_eq_true rfl) dX7_who_106 (fun r_50 M_51 H locs hw_51 h => ?_)
                    obtain ⟨hu, er_50⟩ := hw_51
                    subst hu
                    have er_50 : r_50 = if 0 ≤ (M.2.1 261 (24 * (tn x1) + tn x3 + 2 * i)).toInt ∧ (M.2.1 261 (24 * (tn x1) + tn x3 + 2 * i)).toInt ≤ ((nI nw) - 1).toInt then 1 else 0 := u_in (x := (M.2.1 261 (24 * (tn x1) + tn x3 + 2 * i)).toInt) rfl rfl (u_w _) er_50
                    refine lv_if_eq (tgt := 134) hx hb dX7_who_109 (by decide) (fun c_52 => ?_) (fun c_52 => ?_)
                    · skip
                      have c_52 : ¬ (0 ≤ (M.2.1 261 (24 * (tn x1) + tn x3 + 2 * i)).toInt ∧ (M.2.1 261 (24 * (tn x1) + tn x3 + 2 * i)).toInt ≤ ((nI nw) - 1).toInt) := uz_f er_50 c_52
                      refine lv_bipush (v := (-2)) hx hb dX7_who_134 (by decide) ?_
                      exact ur_iret C h hr hlocks (⟨rfl, by unfold mWho; rw [if_pos ⟨by assumption, by assumption, by assumption, by first | exact Or.inl (by assumption) | exact Or.inr (by assumption)⟩, if_pos (by assumption), if_neg (fun z => by have z1 := of_decide_eq_true (uAll_t z i (by omega)); first | exact c_52 z1.2 | exact c_52 ⟨z1.1.1, by rw [u_pred hnw6]; omega⟩)]⟩) dX7_who_136
                    · skip
                      have c_52 : 0 ≤ (M.2.1 261 (24 * (tn x1) + tn x3 + 2 * i)).toInt ∧ (M.2.1 261 (24 * (tn x1) + tn x3 + 2 * i)).toInt ≤ ((nI nw) - 1).toInt := uz_t er_50 c_52
                      refine lv_aload_n hx hb dX7_who_112 rfl (lv_at hl 3 rfl) ?_
                      refine ur_get C h 251 (by decide) (uc_251 E _) (Cn := RX7) (T := TX7) (N := 17) rfl hin7 15 (by decide) (by decide +kernel) rfl dX7_who_113 ?_
                      refine lv_iload hx hb dX7_who_116 (lv_at hl 1 rfl) ?_
                      refine lv_iconst (v := 2) hx hb dX7_who_118 (by decide) ?_
                      refine lv_iload hx hb dX7_who_119 (lv_at hl 0 rfl) ?_
                      refine lv_imul hx hb dX7_who_121 ?_
                      refine ur_eq (y := nI (2 * i)) (pk_mul 2 i) ?_
                      refine lv_iadd hx hb dX7_who_122 ?_
                      refine ur_eq (y := nI (24 * (tn x1) + tn x3 + 2 * i)) (nI_add (24 * (tn x1) + tn x3) (2 * i)) ?_
                      refine lv_iconst (v := 1) hx hb dX7_who_123 (by decide) ?_
                      refine lv_iadd hx hb dX7_who_124 ?_
                      refine ur_eq (y := nI (24 * (tn x1) + tn x3 + 2 * i + 1)) (nI_add (24 * (tn x1) + tn x3 + 2 * i) 1) ?_
                      refine ur_lald C h 261 (by decide) (uc_261 E _) (24 * (tn x1) + tn x3 + 2 * i + 1) (by omega) (by decide) dX7_who_125 ?_
                      refine lv_lconst (v := 0) hx hb dX7_who_126 (by decide) ?_
                      refine lv_lconst (v := 1) hx hb dX7_who_127 (by decide) ?_
                      refine ur_callSi C h (As := [.long (M.2.1 261 (24 * (tn x1) + tn x3 + 2 * i + 1)), .long 0, .long 1]) (rest := []) (k_X7_in l E hI M (M.2.1 261 (24 * (tn x1) + tn x3 + 2 * i + 1)) 0 1) (va_cwS 3 hts gX7_who_X7_in rfl rfl rfl (by decide +kernel) ⟨Nat.le_of_ble_eq_true rfl, Nat.le_of_ble_eq_true rfl⟩) rfl hl.1 rfl (Nat.le_of_ble_eq_true rfl) dX7_who_128 (fun r_53 M_54 H locs hw_54 h => ?_)
                      obtain ⟨hu, er_53⟩ := hw_54
                      subst hu
                      have er_53 : r_53 = if 0 ≤ (M.2.1 261 (24 * (tn x1) + tn x3 + 2 * i + 1)).toInt ∧ (M.2.1 261 (24 * (tn x1) + tn x3 + 2 * i + 1)).toInt ≤ 1 then 1 else 0 := u_in (x := (M.2.1 261 (24 * (tn x1) + tn x3 + 2 * i + 1)).toInt) rfl rfl rfl er_53
                      refine lv_if_ne (tgt := 137) hx hb dX7_who_131 (by decide) (fun c_55 => ?_) (fun c_55 => ?_)
                      · skip
                        have c_55 : 0 ≤ (M.2.1 261 (24 * (tn x1) + tn x3 + 2 * i + 1)).toInt ∧ (M.2.1 261 (24 * (tn x1) + tn x3 + 2 * i + 1)).toInt ≤ 1 := uz_t er_53 c_55
                        refine lv_iinc (v := nI (i + 1)) (lv' := [(8, .int (nI (i + 1))), (7, .int (nI (24 * (tn x1) + tn x3))), (6, .int v_36), (0, .ref (E.2.1 251)), (1, .int x1), (2, .int x2), (3, .int x3), (4, .int x4), (5, .int x5)]) hx hb dX7_who_137 hl (k := 0) rfl (nI_add i 1) (by decide) rfl (fun ls hl => ?_)
                        refine lv_goto (tgt := 77) hx hb dX7_who_140 (by decide) ?_
                        exact ih77  (i + 1) (by omega) (by omega) (by rw [uAll, hto, Bool.true_and]; exact decide_eq_true ⟨⟨c_52.1, by have := c_52.2; rw [u_pred hnw6] at this; omega⟩, c_55⟩) _ _ _ h (lv_sub hl [0, 1, 2, 3, 4, 5, 6, 7, 8] rfl)
                      · skip
                        have c_55 : ¬ (0 ≤ (M.2.1 261 (24 * (tn x1) + tn x3 + 2 * i + 1)).toInt ∧ (M.2.1 261 (24 * (tn x1) + tn x3 + 2 * i + 1)).toInt ≤ 1) := uz_f er_53 c_55
                        refine lv_bipush (v := (-2)) hx hb dX7_who_134 (by decide) ?_
                        exact ur_iret C h hr hlocks (⟨rfl, by unfold mWho; rw [if_pos ⟨by assumption, by assumption, by assumption, by first | exact Or.inl (by assumption) | exact Or.inr (by assumption)⟩, if_pos (by assumption), if_neg (fun z => by have z1 := of_decide_eq_true (uAll_t z i (by omega)); first | exact c_55 z1.2 | exact c_55 ⟨z1.1.1, by rw [u_pred hnw6]; omega⟩)]⟩) dX7_who_136
              exact lp77 _ 0 (Nat.lt_succ_self _) (by omega) rfl _ _ _ h (lv_sub hl [0, 1, 2, 3, 4, 5, 6, 7, 8] rfl)
            · skip
              refine lv_iload hx hb dX7_who_63 (lv_at hl 0 rfl) ?_
              exact ur_iret C h hr hlocks (⟨rfl, by subst ev_36; unfold mWho; rw [if_pos ⟨by assumption, by assumption, by assumption, by first | exact Or.inl (by assumption) | exact Or.inr (by assumption)⟩, if_neg (by assumption)]⟩) dX7_who_65
          · skip
            have c_33 : ¬ (0 ≤ x5.toInt ∧ x5.toInt < n) := uz_f er_31 c_33
            refine lv_iconst (v := (-1)) hx hb dX7_who_43 (by decide) ?_
            exact ur_iret C h hr hlocks (⟨rfl, by unfold mWho; rw [if_neg (fun z => by first | exact absurd z.1 (by assumption) | exact absurd z.2.1 (by assumption) | exact absurd z.2.2.1 (by assumption) | (rcases z.2.2.2 with z | z <;> contradiction))]⟩) dX7_who_44
