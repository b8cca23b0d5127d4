set_option maxHeartbeats 1000000 in
set_option maxRecDepth 100000 in
theorem k_X2_fillWrongInTurn (l : Launch) (E : uE) (hI : uI E) (M : uM) (w tt : Nat) (hw : w < 6) (htt : tt ≤ 6) (n : Nat) (hn : M.1 1 0 = nI n) (hn6 : n ≤ 6) (ht : ¬ M.1 1 7 = 0) : Met l yX2_fillWrongInTurn wsX2_fillWrongInTurn ({ frames := 4, cells := 0, slots := 0, locals := 97 }) (va_Pc [.ref (E.2.1 235), .int (nI w), .int (nI tt)] (uB E M)) (va_Qv (fun u => ∃ rr, u = uRow M 236 rr ∧ xRowsOk M w n tt rr) (uP E) (uA E)) 0 0 (uA E) := by
  have hin1 : ∀ w ∈ wsX10, w ∈ wsX2_fillWrongInTurn := by decide +kernel
  have hin2 : ∀ w ∈ wsX20, w ∈ wsX2_fillWrongInTurn := by decide +kernel
  have hin3 : ∀ w ∈ wsX30, w ∈ wsX2_fillWrongInTurn := by decide +kernel
  refine u_start (cc := cX2_fillWrongInTurn) (maxL := 8) (ret := none) hI (by decide) rfl (Nat.le_of_ble_eq_true rfl) ?_
  intro p_ e_ s_ m_ bl_ me_ c_ C hr hlocks h ls hl
  have hx := C.1.1
  have hb := C.1.2.1
  have hown : s_.vm.findClass RX2 = some m_.cls := C.1.2.2.2.1
  have hts := C.1.2.2.2.2
  have hl : lv_has ls 8 [(0, .ref (E.2.1 235)), (1, .int (nI w)), (2, .int (nI tt))] := hl
  refine lv_iconst (v := 0) hx hb dX2_fillWrongInTurn_0 (by decide) ?_
  refine lv_istore_n (lv' := [(3, .int 0), (0, .ref (E.2.1 235)), (1, .int (nI w)), (2, .int (nI tt))]) hx hb dX2_fillWrongInTurn_1 rfl hl (by decide) rfl (fun ls hl => ?_)
  have lp2 : ∀ (n2 : Nat) (i : Nat) (Mi : uM) (rr : Nat → Int32), tt - i < n2 → (i ≤ tt) → (Mi = uRow M 236 rr) → (∀ t s, t < i → s < n → rr (t * 6 + s) = xLw M w s t) → ∀ (H : Heap) (locs : List Loc) (ls : Array Slot), uH E Mi s_ H locs → lv_has ls 8 [(3, .int (nI i)), (0, .ref (E.2.1 235)), (1, .int (nI w)), (2, .int (nI tt))] → W p_ l e_ ({ frames := 4, cells := 0, slots := 0, locals := 97 }) s_ m_ (List.toArray [.ref (E.2.1 235), .int (nI w), .int (nI tt)]) bl_ me_ c_ H locs 0 0 (MQ bl_ (va_Qv (fun u => ∃ rr, u = uRow M 236 rr ∧ xRowsOk M w n tt rr) (uP E) (uA E)) (List.toArray [.ref (E.2.1 235), .int (nI w), .int (nI tt)]) s_ 0 0 (uA E)) (F0 m_ 2 ls []) := by
    intro n2
    induction n2 with
    | zero => intro i Mi rr hms; exact absurd hms (Nat.not_lt_zero _)
    | succ n2 ih2 =>
      intro i Mi rr hms2 hi hMi hrr H locs ls h hl
      refine lv_iload_n hx hb dX2_fillWrongInTurn_2 rfl (lv_at hl 0 rfl) ?_
      refine lv_iload_n hx hb dX2_fillWrongInTurn_3 rfl (lv_at hl 3 rfl) ?_
      refine lv_icmp_ge (tgt := 120) hx hb dX2_fillWrongInTurn_4 (by decide) (fun c_1 => ?_) (fun c_1 => ?_)
      · skip
        have c_1 : tt ≤ i := (nI_leI (a := tt) (b := i) (by omega) (by omega)).mp c_1
        exact ur_vret C h hr hlocks (⟨rr, hMi, fun t s h1 h2 => hrr t s (by omega) h2⟩) dX2_fillWrongInTurn_120
      · skip
        have c_1 : ¬ tt ≤ i := fun z => c_1 ((nI_leI (a := tt) (b := i) (by omega) (by omega)).mpr z)
        refine lv_aload_n hx hb dX2_fillWrongInTurn_7 rfl (lv_at hl 1 rfl) ?_
        refine ur_get C h 235 (by decide) (uc_235 E _) (Cn := RX2) (T := TX2) (N := 5) rfl hin2 0 (by decide) (by decide +kernel) rfl dX2_fillWrongInTurn_8 ?_
        refine lv_aload_n hx hb dX2_fillWrongInTurn_11 rfl (lv_at hl 1 rfl) ?_
        refine ur_get C h 235 (by decide) (uc_235 E _) (Cn := RX2) (T := TX2) (N := 5) rfl hin2 0 (by decide) (by decide +kernel) rfl dX2_fillWrongInTurn_12 ?_
        refine ur_get C h 1 (by decide) (uc_1 E _) (Cn := RX1) (T := TX1) (N := 11) rfl hin1 8 (by decide) (by decide +kernel) rfl dX2_fillWrongInTurn_15 ?_
        refine ur_get C h 7 (by decide) (uc_7 E _) (Cn := RX3) (T := TX3) (N := 6) rfl hin3 4 (by decide) (by decide +kernel) rfl dX2_fillWrongInTurn_18 ?_
        refine lv_iload_n hx hb dX2_fillWrongInTurn_21 rfl (lv_at hl 0 rfl) ?_
        refine lv_iadd hx hb dX2_fillWrongInTurn_22 ?_
        refine ur_callVi C h (k := 1) (As := [.int ((Mi.1 7 4) + (nI i))]) (rest := []) (k_X1_hearsIn l E hI Mi ((Mi.1 7 4) + (nI i)) (by rw [hMi]; exact ht)) (cwV 1 hts gX2_fillWrongInTurn_X1_hearsIn rfl rfl rfl (by decide +kernel) ⟨Nat.le_of_ble_eq_true rfl, Nat.le_of_ble_eq_true rfl⟩) (by decide) (uc_1 E _) (T := TX1) (N := 11) rfl rfl hl.1 rfl (Nat.le_of_ble_eq_true rfl) dX2_fillWrongInTurn_23 (fun r_2 M_3 H locs hw_3 h => ?_)
        obtain ⟨hu, er_2⟩ := hw_3
        subst hu
        refine ur_eq (y := xHears (Mi.1 1 6) (Mi.1 1 7) ((Mi.1 7 4) + (nI i))) er_2 ?_
        refine lv_topi (fun v_4 ev_4 => ?_)
        refine lv_istore (lv' := [(4, .int v_4), (3, .int (nI i)), (0, .ref (E.2.1 235)), (1, .int (nI w)), (2, .int (nI tt))]) hx hb dX2_fillWrongInTurn_26 hl (by decide) rfl (fun ls hl => ?_)
        refine lv_aload_n hx hb dX2_fillWrongInTurn_28 rfl (lv_at hl 2 rfl) ?_
        refine ur_get C h 235 (by decide) (uc_235 E _) (Cn := RX2) (T := TX2) (N := 5) rfl hin2 0 (by decide) (by decide +kernel) rfl dX2_fillWrongInTurn_29 ?_
        refine ur_get C h 1 (by decide) (uc_1 E _) (Cn := RX1) (T := TX1) (N := 11) rfl hin1 8 (by decide) (by decide +kernel) rfl dX2_fillWrongInTurn_32 ?_
        refine ur_get C h 7 (by decide) (uc_7 E _) (Cn := RX3) (T := TX3) (N := 6) rfl hin3 2 (by decide) (by decide +kernel) rfl dX2_fillWrongInTurn_35 ?_
        refine lv_iload_n hx hb dX2_fillWrongInTurn_38 rfl (lv_at hl 3 rfl) ?_
        refine ur_iald C h 10 (by decide) (uc_10 E _) (w) (by omega) (by decide) dX2_fillWrongInTurn_39 ?_
        refine lv_iload_n hx hb dX2_fillWrongInTurn_40 rfl (lv_at hl 1 rfl) ?_
        refine lv_iadd hx hb dX2_fillWrongInTurn_41 ?_
        refine lv_istore (lv' := [(5, .int ((Mi.1 10 w) + (nI i))), (4, .int v_4), (3, .int (nI i)), (0, .ref (E.2.1 235)), (1, .int (nI w)), (2, .int (nI tt))]) hx hb dX2_fillWrongInTurn_42 hl (by decide) rfl (fun ls hl => ?_)
        refine lv_iconst (v := 0) hx hb dX2_fillWrongInTurn_44 (by decide) ?_
        refine lv_istore (lv' := [(6, .int 0), (5, .int ((Mi.1 10 w) + (nI i))), (4, .int v_4), (3, .int (nI i)), (0, .ref (E.2.1 235)), (1, .int (nI w)), (2, .int (nI tt))]) hx hb dX2_fillWrongInTurn_45 hl (by decide) rfl (fun ls hl => ?_)
        have lp47 : ∀ (n47 : Nat) (j : Nat) (Mj : uM) (rj : Nat → Int32), n - j < n47 → (j ≤ n) → (Mj = uRow M 236 rj) → (∀ t s, (t < i ∨ (t = i ∧ s < j)) → s < n → rj (t * 6 + s) = xLw M w s t) → ∀ (H : Heap) (locs : List Loc) (ls : Array Slot), uH E Mj s_ H locs → lv_has ls 8 [(6, .int (nI j)), (5, .int ((Mi.1 10 w) + (nI i))), (4, .int v_4), (3, .int (nI i)), (0, .ref (E.2.1 235)), (1, .int (nI w)), (2, .int (nI tt))] → W p_ l e_ ({ frames := 4, cells := 0, slots := 0, locals := 97 }) s_ m_ (List.toArray [.ref (E.2.1 235), .int (nI w), .int (nI tt)]) bl_ me_ c_ H locs 0 0 (MQ bl_ (va_Qv (fun u => ∃ rr, u = uRow M 236 rr ∧ xRowsOk M w n tt rr) (uP E) (uA E)) (List.toArray [.ref (E.2.1 235), .int (nI w), .int (nI tt)]) s_ 0 0 (uA E)) (F0 m_ 47 ls []) := by
          intro n47
          induction n47 with
          | zero => intro j Mj rj hms; exact absurd hms (Nat.not_lt_zero _)
          | succ n47 ih47 =>
            intro j Mj rj hms47 hj hMj hrj H locs ls h hl
            refine lv_iload hx hb dX2_fillWrongInTurn_47 (lv_at hl 0 rfl) ?_
            refine lv_aload_n hx hb dX2_fillWrongInTurn_49 rfl (lv_at hl 4 rfl) ?_
            refine ur_get C h 235 (by decide) (uc_235 E _) (Cn := RX2) (T := TX2) (N := 5) rfl hin2 0 (by decide) (by decide +kernel) rfl dX2_fillWrongInTurn_50 ?_
            refine ur_get C h 1 (by decide) (uc_1 E _) (Cn := RX1) (T := TX1) (N := 11) rfl hin1 0 (by decide) (by decide +kernel) rfl dX2_fillWrongInTurn_53 ?_
            refine ur_eq (y := nI n) ((by rw [hMj]; exact hn)) ?_
            refine lv_icmp_ge (tgt := 114) hx hb dX2_fillWrongInTurn_56 (by decide) (fun c_5 => ?_) (fun c_5 => ?_)
            · skip
              have c_5 : n ≤ j := (nI_leI (a := n) (b := j) (by omega) (by omega)).mp c_5
              refine lv_iinc (v := nI (i + 1)) (lv' := [(3, .int (nI (i + 1))), (6, .int (nI j)), (5, .int ((Mi.1 10 w) + (nI i))), (4, .int v_4), (0, .ref (E.2.1 235)), (1, .int (nI w)), (2, .int (nI tt))]) hx hb dX2_fillWrongInTurn_114 hl (k := 3) rfl (nI_add i 1) (by decide) rfl (fun ls hl => ?_)
              refine lv_goto (tgt := 2) hx hb dX2_fillWrongInTurn_117 (by decide) ?_
              exact ih2  (i + 1) Mj rj (by omega) (by omega) hMj (fun t s h1 h2 => hrj t s (by omega) h2) _ _ _ h (lv_sub hl [0, 4, 5, 6] rfl)
            · skip
              have c_5 : ¬ n ≤ j := fun z => c_5 ((nI_leI (a := n) (b := j) (by omega) (by omega)).mpr z)
              refine lv_aload_n hx hb dX2_fillWrongInTurn_59 rfl (lv_at hl 4 rfl) ?_
              refine ur_get C h 235 (by decide) (uc_235 E _) (Cn := RX2) (T := TX2) (N := 5) rfl hin2 0 (by decide) (by decide +kernel) rfl dX2_fillWrongInTurn_60 ?_
              refine lv_iload hx hb dX2_fillWrongInTurn_63 (lv_at hl 0 rfl) ?_
              refine lv_iload_n hx hb dX2_fillWrongInTurn_65 rfl (lv_at hl 5 rfl) ?_
              refine lv_iload hx hb dX2_fillWrongInTurn_66 (lv_at hl 2 rfl) ?_
              refine lv_aload_n hx hb dX2_fillWrongInTurn_68 rfl (lv_at hl 4 rfl) ?_
              refine ur_get C h 235 (by decide) (uc_235 E _) (Cn := RX2) (T := TX2) (N := 5) rfl hin2 0 (by decide) (by decide +kernel) rfl dX2_fillWrongInTurn_69 ?_
              refine ur_get C h 1 (by decide) (uc_1 E _) (Cn := RX1) (T := TX1) (N := 11) rfl hin1 8 (by decide) (by decide +kernel) rfl dX2_fillWrongInTurn_72 ?_
              refine ur_get C h 7 (by decide) (uc_7 E _) (Cn := RX3) (T := TX3) (N := 6) rfl hin3 1 (by decide) (by decide +kernel) rfl dX2_fillWrongInTurn_75 ?_
              refine lv_iload hx hb dX2_fillWrongInTurn_78 (lv_at hl 0 rfl) ?_
              refine ur_iald C h 9 (by decide) (uc_9 E _) (j) (by omega) (by decide) dX2_fillWrongInTurn_80 ?_
              refine lv_iload hx hb dX2_fillWrongInTurn_81 (lv_at hl 1 rfl) ?_
              refine ur_callVi C h (k := 1) (As := [.int (nI j), .int (nI w), .int v_4, .int (Mj.1 9 j), .int ((Mi.1 10 w) + (nI i))]) (rest := []) (k_X1_passIf l E hI Mj j w v_4 (Mj.1 9 j) ((Mi.1 10 w) + (nI i)) (by omega) (by omega)) (cwV 5 hts gX2_fillWrongInTurn_X1_passIf rfl rfl rfl (by decide +kernel) ⟨Nat.le_of_ble_eq_true rfl, Nat.le_of_ble_eq_true rfl⟩) (by decide) (uc_1 E _) (T := TX1) (N := 11) rfl rfl hl.1 rfl (Nat.le_of_ble_eq_true rfl) dX2_fillWrongInTurn_83 (fun r_6 M_7 H locs hw_7 h => ?_)
              obtain ⟨hu, er_6⟩ := hw_7
              subst hu
              refine ur_eq (y := xPassIf Mj j w v_4 (Mj.1 9 j) ((Mi.1 10 w) + (nI i))) er_6 ?_
              refine lv_topi (fun v_8 ev_8 => ?_)
              refine lv_istore (lv' := [(7, .int v_8), (6, .int (nI j)), (5, .int ((Mi.1 10 w) + (nI i))), (4, .int v_4), (3, .int (nI i)), (0, .ref (E.2.1 235)), (1, .int (nI w)), (2, .int (nI tt))]) hx hb dX2_fillWrongInTurn_86 hl (by decide) rfl (fun ls hl => ?_)
              refine lv_aload_n hx hb dX2_fillWrongInTurn_88 rfl (lv_at hl 5 rfl) ?_
              refine ur_get C h 235 (by decide) (uc_235 E _) (Cn := RX2) (T := TX2) (N := 5) rfl hin2 1 (by decide) (by decide +kernel) rfl dX2_fillWrongInTurn_89 ?_
              refine lv_iload_n hx hb dX2_fillWrongInTurn_92 rfl (lv_at hl 4 rfl) ?_
              refine lv_bipush (v := 6) hx hb dX2_fillWrongInTurn_93 (by decide) ?_
              refine lv_imul hx hb dX2_fillWrongInTurn_95 ?_
              refine ur_eq (y := nI (i * 6)) (pk_mul i 6) ?_
              refine lv_iload hx hb dX2_fillWrongInTurn_96 (lv_at hl 1 rfl) ?_
              refine lv_iadd hx hb dX2_fillWrongInTurn_98 ?_
              refine ur_eq (y := nI (i * 6 + j)) (nI_add (i * 6) j) ?_
              refine lv_aload_n hx hb dX2_fillWrongInTurn_99 rfl (lv_at hl 5 rfl) ?_
              refine lv_iload hx hb dX2_fillWrongInTurn_100 (lv_at hl 1 rfl) ?_
              refine lv_iload hx hb dX2_fillWrongInTurn_102 (lv_at hl 0 rfl) ?_
              refine ur_callVi C h (k := 235) (As := [.int (nI j), .int v_8]) (rest := [.int (nI (i * 6 + j)), .ref (E.2.1 236)]) (k_X2_wrongOf l E hI Mj j v_8 (by omega)) (cwV 2 hts gX2_fillWrongInTurn_X2_wrongOf rfl rfl rfl (by decide +kernel) ⟨Nat.le_of_ble_eq_true rfl, Nat.le_of_ble_eq_true rfl⟩) (by decide) (uc_235 E _) (T := TX2) (N := 5) rfl rfl hl.1 rfl (Nat.le_of_ble_eq_true rfl) dX2_fillWrongInTurn_104 (fun r_9 M_10 H locs hw_10 h => ?_)
              obtain ⟨hu, er_9⟩ := hw_10
              subst hu
              refine ur_eq (y := xWrong Mj j v_8) er_9 ?_
              refine ur_iast C h 236 (by decide) (uc_236 E) (i * 6 + j) (by omega) (by decide) dX2_fillWrongInTurn_107 (fun M_11 H locs eM_11 h => ?_)
              refine lv_iinc (v := nI (j + 1)) (lv' := [(6, .int (nI (j + 1))), (7, .int v_8), (5, .int ((Mi.1 10 w) + (nI i))), (4, .int v_4), (3, .int (nI i)), (0, .ref (E.2.1 235)), (1, .int (nI w)), (2, .int (nI tt))]) hx hb dX2_fillWrongInTurn_108 hl (k := 1) rfl (nI_add j 1) (by decide) rfl (fun ls hl => ?_)
              refine lv_goto (tgt := 47) hx hb dX2_fillWrongInTurn_111 (by decide) ?_
              exact ih47  (j + 1) M_11 (upd rj (i * 6 + j) (xLw M w j i)) (by omega) (by omega) (by subst hMi; subst hMj; subst ev_4; subst ev_8; subst eM_11; rw [u_set_row]; rfl) (fun t s h1 h2 => by rw [u_upd]; by_cases e9 : t * 6 + s = i * 6 + j; (rw [if_pos e9, show t = i by omega, show s = j by omega]); (rw [if_neg e9]; exact hrj t s (by omega) h2)) _ _ _ h (lv_sub hl [0, 2, 3, 4, 5, 6, 7] rfl)
        exact lp47 _ 0 Mi rr (Nat.lt_succ_self _) (by omega) hMi (fun t s h1 h2 => hrr t s (by omega) h2) _ _ _ h (lv_sub hl [0, 1, 2, 3, 4, 5, 6] rfl)
  exact lp2 _ 0 M (M.1 236) (Nat.lt_succ_self _) (by omega) (u_row_self M 236).symm (fun t s h _ => absurd h (Nat.not_lt_zero t)) _ _ _ h (lv_sub hl [0, 1, 2, 3] rfl)
set_option maxHeartbeats 1000000 in
set_option maxRecDepth 100000 in
theorem k_X2_wrongsIfNext (l : Launch) (E : uE) (hI : uI E) (M : uM) (p s t : Nat) (hp : p < 6) (hs : s < 64) (ht6 : t < 6) : Met l yX2_wrongsIfNext wsX2_wrongsIfNext ({ frames := 0, cells := 0, slots := 0, locals := 0 }) (va_Pc [.ref (E.2.1 235), .int (nI p), .int (nI s), .int (nI t)] (uB E M)) (va_Qi (fun r u => M = u ∧ r = xNext (M.1 236) (M.1 237) s t p) (uP E) (uA E)) 0 0 (uA E) := by
  have hin2 : ∀ w ∈ wsX20, w ∈ wsX2_wrongsIfNext := by decide +kernel
  refine u_start (cc := cX2_wrongsIfNext) (maxL := 4) (ret := (some .int)) hI (by decide) rfl (Nat.le_of_ble_eq_true rfl) ?_
  intro p_ e_ s_ m_ bl_ me_ c_ C hr hlocks h ls hl
  have hx := C.1.1
  have hb := C.1.2.1
  have hown : s_.vm.findClass RX2 = some m_.cls := C.1.2.2.2.1
  have hts := C.1.2.2.2.2
  have hl : lv_has ls 4 [(0, .ref (E.2.1 235)), (1, .int (nI p)), (2, .int (nI s)), (3, .int (nI t))] := hl
  refine lv_aload_n hx hb dX2_wrongsIfNext_0 rfl (lv_at hl 0 rfl) ?_
  refine ur_get C h 235 (by decide) (uc_235 E _) (Cn := RX2) (T := TX2) (N := 5) rfl hin2 1 (by decide) (by decide +kernel) rfl dX2_wrongsIfNext_1 ?_
  refine lv_iload_n hx hb dX2_wrongsIfNext_4 rfl (lv_at hl 3 rfl) ?_
  refine lv_bipush (v := 6) hx hb dX2_wrongsIfNext_5 (by decide) ?_
  refine lv_imul hx hb dX2_wrongsIfNext_7 ?_
  refine ur_eq (y := nI (t * 6)) (pk_mul t 6) ?_
  refine lv_iload_n hx hb dX2_wrongsIfNext_8 rfl (lv_at hl 1 rfl) ?_
  refine lv_iadd hx hb dX2_wrongsIfNext_9 ?_
  refine ur_eq (y := nI (t * 6 + p)) (nI_add (t * 6) p) ?_
  refine ur_iald C h 236 (by decide) (uc_236 E _) (t * 6 + p) (by omega) (by decide) dX2_wrongsIfNext_10 ?_
  refine lv_aload_n hx hb dX2_wrongsIfNext_11 rfl (lv_at hl 0 rfl) ?_
  refine ur_get C h 235 (by decide) (uc_235 E _) (Cn := RX2) (T := TX2) (N := 5) rfl hin2 2 (by decide) (by decide +kernel) rfl dX2_wrongsIfNext_12 ?_
  refine lv_iload_n hx hb dX2_wrongsIfNext_15 rfl (lv_at hl 2 rfl) ?_
  refine lv_iconst (v := 1) hx hb dX2_wrongsIfNext_16 (by decide) ?_
  refine lv_iload_n hx hb dX2_wrongsIfNext_17 rfl (lv_at hl 1 rfl) ?_
  refine lv_ishl hx hb dX2_wrongsIfNext_18 ?_
  refine lv_iconst (v := (-1)) hx hb dX2_wrongsIfNext_19 (by decide) ?_
  refine lv_ixor hx hb dX2_wrongsIfNext_20 ?_
  refine lv_iand hx hb dX2_wrongsIfNext_21 ?_
  obtain ⟨hc1, hc2⟩ := clr_e (s := s) (p := p) (by omega) (by omega)
  refine ur_eq (y := nI (clr s p)) hc1 ?_
  refine ur_iald C h 237 (by decide) (uc_237 E _) (clr s p) (by omega) (by decide) dX2_wrongsIfNext_22 ?_
  refine lv_iadd hx hb dX2_wrongsIfNext_23 ?_
  exact ur_iret C h hr hlocks (⟨rfl, rfl⟩) dX2_wrongsIfNext_24
set_option maxHeartbeats 1000000 in
set_option maxRecDepth 100000 in
theorem k_X2_leastFor (l : Launch) (E : uE) (hI : uI E) (M : uM) (s t : Nat) (hs : s < 64) (ht6 : t < 6) (n : Nat) (hn : M.1 1 0 = nI n) (hn6 : n ≤ 6) : Met l yX2_leastFor wsX2_leastFor ({ frames := 1, cells := 0, slots := 0, locals := 23 }) (va_Pc [.ref (E.2.1 235), .int (nI s), .int (nI t)] (uB E M)) (va_Qi (fun r u => M = u ∧ r = xLf (xNext (M.1 236) (M.1 237) s t) s n) (uP E) (uA E)) 0 0 (uA E) := by
  have hin1 : ∀ w ∈ wsX10, w ∈ wsX2_leastFor := by decide +kernel
  have hin2 : ∀ w ∈ wsX20, w ∈ wsX2_leastFor := by decide +kernel
  refine u_start (cc := cX2_leastFor) (maxL := 5) (ret := (some .int)) hI (by decide) rfl (Nat.le_of_ble_eq_true rfl) ?_
  intro p_ e_ s_ m_ bl_ me_ c_ C hr hlocks h ls hl
  have hx := C.1.1
  have hb := C.1.2.1
  have hown : s_.vm.findClass RX2 = some m_.cls := C.1.2.2.2.1
  have hts := C.1.2.2.2.2
  have hl : lv_has ls 5 [(0, .ref (E.2.1 235)), (1, .int (nI s)), (2, .int (nI t))] := hl
  refine lv_ldc (v := 6000000) hx hb hown (hts (.constant RX2 100 6000000) (by decide +kernel)) dX2_leastFor_0 ?_
  refine lv_istore_n (lv' := [(3, .int 6000000), (0, .ref (E.2.1 235)), (1, .int (nI s)), (2, .int (nI t))]) hx hb dX2_leastFor_2 rfl hl (by decide) rfl (fun ls hl => ?_)
  refine lv_iconst (v := 0) hx hb dX2_leastFor_3 (by decide) ?_
  refine lv_istore (lv' := [(4, .int 0), (3, .int 6000000), (0, .ref (E.2.1 235)), (1, .int (nI s)), (2, .int (nI t))]) hx hb dX2_leastFor_4 hl (by decide) rfl (fun ls hl => ?_)
  have lp6 : ∀ (n6 : Nat) (i : Nat) (v : Int32), n - i < n6 → (i ≤ n) → (v = xLf (xNext (M.1 236) (M.1 237) s t) s i) → ∀ (H : Heap) (locs : List Loc) (ls : Array Slot), uH E M s_ H locs → lv_has ls 5 [(4, .int (nI i)), (3, .int v), (0, .ref (E.2.1 235)), (1, .int (nI s)), (2, .int (nI t))] → W p_ l e_ ({ frames := 1, cells := 0, slots := 0, locals := 23 }) s_ m_ (List.toArray [.ref (E.2.1 235), .int (nI s), .int (nI t)]) bl_ me_ c_ H locs 0 0 (MQ bl_ (va_Qi (fun r u => M = u ∧ r = xLf (xNext (M.1 236) (M.1 237) s t) s n) (uP E) (uA E)) (List.toArray [.ref (E.2.1 235), .int (nI s), .int (nI t)]) s_ 0 0 (uA E)) (F0 m_ 6 ls []) := by
    intro n6
    induction n6 with
    | zero => intro i v hms; exact absurd hms (Nat.not_lt_zero _)
    | succ n6 ih6 =>
      intro i v hms6 hi hv H locs ls h hl
      refine lv_iload hx hb dX2_leastFor_6 (lv_at hl 0 rfl) ?_
      refine lv_aload_n hx hb dX2_leastFor_8 rfl (lv_at hl 2 rfl) ?_
      refine ur_get C h 235 (by decide) (uc_235 E _) (Cn := RX2) (T := TX2) (N := 5) rfl hin2 0 (by decide) (by decide +kernel) rfl dX2_leastFor_9 ?_
      refine ur_get C h 1 (by decide) (uc_1 E _) (Cn := RX1) (T := TX1) (N := 11) rfl hin1 0 (by decide) (by decide +kernel) rfl dX2_leastFor_12 ?_
      refine ur_eq (y := nI n) (hn) ?_
      refine lv_icmp_ge (tgt := 46) hx hb dX2_leastFor_15 (by decide) (fun c_1 => ?_) (fun c_1 => ?_)
      · skip
        have c_1 : n ≤ i := (nI_leI (a := n) (b := i) (by omega) (by omega)).mp c_1
        refine lv_iload_n hx hb dX2_leastFor_46 rfl (lv_at hl 1 rfl) ?_
        exact ur_iret C h hr hlocks (⟨rfl, by rw [hv, show i = n by omega]⟩) dX2_leastFor_47
      · skip
        have c_1 : ¬ n ≤ i := fun z => c_1 ((nI_leI (a := n) (b := i) (by omega) (by omega)).mpr z)
        refine lv_iload_n hx hb dX2_leastFor_18 rfl (lv_at hl 3 rfl) ?_
        refine lv_iload hx hb dX2_leastFor_19 (lv_at hl 0 rfl) ?_
        refine ur_callNi C h (As := [.int (nI s), .int (nI i)]) (rest := []) (k_X6_has l E hI M (nI s) i) (⟨va_cnB 2 hts gX2_leastFor_X6_has_n101 rfl rfl rfl C.2.2.1.2 (hts (.initialized RX6) (by decide +kernel)) (by decide +kernel) ⟨Nat.le_of_ble_eq_true rfl, Nat.le_of_ble_eq_true rfl⟩, hts (.static yX6_has) (by decide +kernel), trivial⟩) rfl hl.1 rfl (Nat.le_of_ble_eq_true rfl) dX2_leastFor_21 (fun r_2 M_3 H locs hw_3 h => ?_)
        obtain ⟨hu, er_2⟩ := hw_3
        subst hu
        refine lv_if_eq (tgt := 40) hx hb dX2_leastFor_24 (by decide) (fun c_4 => ?_) (fun c_4 => ?_)
        · skip
          have c_4 : ¬ (ubit (nI s) i = true) := uz_f er_2 c_4
          refine lv_iinc (v := nI (i + 1)) (lv' := [(4, .int (nI (i + 1))), (3, .int v), (0, .ref (E.2.1 235)), (1, .int (nI s)), (2, .int (nI t))]) hx hb dX2_leastFor_40 hl (k := 0) rfl (nI_add i 1) (by decide) rfl (fun ls hl => ?_)
          refine lv_goto (tgt := 6) hx hb dX2_leastFor_43 (by decide) ?_
          exact ih6  (i + 1) v (by omega) (by omega) (by rw [xLf, if_neg c_4, ← hv]) _ _ _ h (lv_sub hl [0, 1, 2, 3, 4] rfl)
        · skip
          have c_4 : ubit (nI s) i = true := uz_t er_2 c_4
          refine lv_iload_n hx hb dX2_leastFor_27 rfl (lv_at hl 1 rfl) ?_
          refine lv_aload_n hx hb dX2_leastFor_28 rfl (lv_at hl 2 rfl) ?_
          refine lv_iload hx hb dX2_leastFor_29 (lv_at hl 0 rfl) ?_
          refine lv_iload_n hx hb dX2_leastFor_31 rfl (lv_at hl 3 rfl) ?_
          refine lv_iload_n hx hb dX2_leastFor_32 rfl (lv_at hl 4 rfl) ?_
          refine ur_callVi C h (k := 235) (As := [.int (nI i), .int (nI s), .int (nI t)]) (rest := [.int v]) (k_X2_wrongsIfNext l E hI M i s t (by omega) (by omega) (by omega)) (cwV 3 hts gX2_leastFor_X2_wrongsIfNext rfl rfl rfl (by decide +kernel) ⟨Nat.le_of_ble_eq_true rfl, Nat.le_of_ble_eq_true rfl⟩) (by decide) (uc_235 E _) (T := TX2) (N := 5) rfl rfl hl.1 rfl (Nat.le_of_ble_eq_true rfl) dX2_leastFor_33 (fun r_5 M_6 H locs hw_6 h => ?_)
          obtain ⟨hu, er_5⟩ := hw_6
          subst hu
          refine ur_eq (y := xNext (M.1 236) (M.1 237) s t i) er_5 ?_
          refine va_mmin hx hb (by rw [C.1.2.2.1]; exact hl.1.symm) hown (hts (.methodLink RX2 108 Lib.Math.min.name) (by decide +kernel)) (hts (.static Lib.Math.min.name) (by decide +kernel)) (hts (.initialized "java/lang/Math") (by decide +kernel)) (hts (.code Lib.Math.min.name Lib.Math.min.code 2 (some .int)) (by decide +kernel)) (Nat.le_of_ble_eq_true rfl) (Nat.le_of_ble_eq_true rfl) (Nat.zero_le _) (Nat.zero_le _) dX2_leastFor_36 ?_
          refine lv_topi (fun v_7 ev_7 => ?_)
          refine lv_istore_n (lv' := [(3, .int v_7), (4, .int (nI i)), (0, .ref (E.2.1 235)), (1, .int (nI s)), (2, .int (nI t))]) hx hb dX2_leastFor_39 rfl hl (by decide) rfl (fun ls hl => ?_)
          refine lv_iinc (v := nI (i + 1)) (lv' := [(4, .int (nI (i + 1))), (3, .int v_7), (0, .ref (E.2.1 235)), (1, .int (nI s)), (2, .int (nI t))]) hx hb dX2_leastFor_40 hl (k := 1) rfl (nI_add i 1) (by decide) rfl (fun ls hl => ?_)
          refine lv_goto (tgt := 6) hx hb dX2_leastFor_43 (by decide) ?_
          exact ih6  (i + 1) v_7 (by omega) (by omega) (by subst ev_7; rw [xLf, if_pos c_4, ← hv]) _ _ _ h (lv_sub hl [0, 1, 2, 3, 4] rfl)
  exact lp6 _ 0 6000000 (Nat.lt_succ_self _) (by omega) rfl _ _ _ h (lv_sub hl [0, 1, 2, 3, 4] rfl)
set_option maxHeartbeats 1000000 in
set_option maxRecDepth 100000 in
theorem k_X2_weighLines (l : Launch) (E : uE) (hI : uI E) (M : uM) (w al : Nat) (hw : w < 6) (hal6 : al < 64) (n : Nat) (hn : M.1 1 0 = nI n) (hn6 : n ≤ 6) (ht : ¬ M.1 1 7 = 0) : Met l yX2_weighLines wsX2_weighLines ({ frames := 5, cells := 0, slots := 0, locals := 124 }) (va_Pc [.ref (E.2.1 235), .int (nI w), .int (nI al)] (uB E M)) (va_Qv (fun u => ∃ rr tb, u = uRow (uRow M 236 rr) 237 tb ∧ xRowsOk M w n (pop al) rr ∧ xTabOk rr tb n al al) (uP E) (uA E)) 0 0 (uA E) := by
  have hin2 : ∀ w ∈ wsX20, w ∈ wsX2_weighLines := by decide +kernel
  refine u_start (cc := cX2_weighLines) (maxL := 5) (ret := none) hI (by decide) rfl (Nat.le_of_ble_eq_true rfl) ?_
  intro p_ e_ s_ m_ bl_ me_ c_ C hr hlocks h ls hl
  have hx := C.1.1
  have hb := C.1.2.1
  have hown : s_.vm.findClass RX2 = some m_.cls := C.1.2.2.2.1
  have hts := C.1.2.2.2.2
  have hl : lv_has ls 5 [(0, .ref (E.2.1 235)), (1, .int (nI w)), (2, .int (nI al))] := hl
  refine lv_iload_n hx hb dX2_weighLines_0 rfl (lv_at hl 2 rfl) ?_
  refine ur_callSi C h (As := [.int (nI al)]) (rest := []) (k_J6_bitCount_0f7a4 l E hI M al (by omega)) (va_cwS 1 hts gX2_weighLines_J6_bitCount_0f7a4 rfl rfl rfl (by decide +kernel) ⟨Nat.le_of_ble_eq_true rfl, Nat.le_of_ble_eq_true rfl⟩) rfl hl.1 rfl (Nat.le_of_ble_eq_true rfl) dX2_weighLines_1 (fun r_1 M_2 H locs hw_2 h => ?_)
  obtain ⟨hu, er_1⟩ := hw_2
  subst hu
  refine ur_eq (y := nI (pop al)) er_1 ?_
  have hpr_1 : pop al ≤ 6 := pop6 (by omega)
  refine lv_istore_n (lv' := [(3, .int (nI (pop al))), (0, .ref (E.2.1 235)), (1, .int (nI w)), (2, .int (nI al))]) hx hb dX2_weighLines_4 rfl hl (by decide) rfl (fun ls hl => ?_)
  refine lv_aload_n hx hb dX2_weighLines_5 rfl (lv_at hl 1 rfl) ?_
  refine lv_iload_n hx hb dX2_weighLines_6 rfl (lv_at hl 2 rfl) ?_
  refine lv_iload_n hx hb dX2_weighLines_7 rfl (lv_at hl 0 rfl) ?_
  refine ur_callVv C h (k := 235) (As := [.int (nI w), .int (nI (pop al))]) (rest := []) (k_X2_fillWrongInTurn l E hI M w (pop al) (by omega) (by omega) n hn hn6 ht) (cwV 2 hts gX2_weighLines_X2_fillWrongInTurn rfl rfl rfl (by decide +kernel) ⟨Nat.le_of_ble_eq_true rfl, Nat.le_of_ble_eq_true rfl⟩) (by decide) (uc_235 E _) (T := TX2) (N := 5) rfl rfl hl.1 rfl (Nat.le_of_ble_eq_true rfl) dX2_weighLines_8 (fun M_4 H locs hw_4 h => ?_)
  obtain ⟨rr, eM_4, hrr⟩ := hw_4
  refine lv_aload_n hx hb dX2_weighLines_11 rfl (lv_at hl 1 rfl) ?_
  refine ur_get C h 235 (by decide) (uc_235 E _) (Cn := RX2) (T := TX2) (N := 5) rfl hin2 2 (by decide) (by decide +kernel) rfl dX2_weighLines_12 ?_
  refine lv_iconst (v := 0) hx hb dX2_weighLines_15 (by decide) ?_
  refine lv_iconst (v := 0) hx hb dX2_weighLines_16 (by decide) ?_
  refine ur_iast C h 237 (by decide) (uc_237 E) (0) (by decide) (by decide) dX2_weighLines_17 (fun M_5 H locs eM_5 h => ?_)
  have hM1 := eM_4
  have hn1 : M_4.1 1 0 = nI n := by rw [eM_4]; exact hn
  refine lv_iconst (v := 1) hx hb dX2_weighLines_18 (by decide) ?_
  refine lv_istore (lv' := [(4, .int 1), (3, .int (nI (pop al))), (0, .ref (E.2.1 235)), (1, .int (nI w)), (2, .int (nI al))]) hx hb dX2_weighLines_19 hl (by decide) rfl (fun ls hl => ?_)
  have lp21 : ∀ (n21 : Nat) (i : Nat) (Mi : uM) (tb : Nat → Int32), al - i < n21 → (i ≤ al) → (Mi = uRow M_4 237 tb) → (xTabOk rr tb n al i) → ∀ (H : Heap) (locs : List Loc) (ls : Array Slot), uH E Mi s_ H locs → lv_has ls 5 [(4, .int (nI (1 + i))), (3, .int (nI (pop al))), (0, .ref (E.2.1 235)), (1, .int (nI w)), (2, .int (nI al))] → W p_ l e_ ({ frames := 5, cells := 0, slots := 0, locals := 124 }) s_ m_ (List.toArray [.ref (E.2.1 235), .int (nI w), .int (nI al)]) bl_ me_ c_ H locs 0 0 (MQ bl_ (va_Qv (fun u => ∃ rr tb, u = uRow (uRow M 236 rr) 237 tb ∧ xRowsOk M w n (pop al) rr ∧ xTabOk rr tb n al al) (uP E) (uA E)) (List.toArray [.ref (E.2.1 235), .int (nI w), .int (nI al)]) s_ 0 0 (uA E)) (F0 m_ 21 ls []) := by
    intro n21
    induction n21 with
    | zero => intro i Mi tb hms; exact absurd hms (Nat.not_lt_zero _)
    | succ n21 ih21 =>
      intro i Mi tb hms21 hi hMi htb H locs ls h hl
      refine lv_iload hx hb dX2_weighLines_21 (lv_at hl 0 rfl) ?_
      refine lv_iload_n hx hb dX2_weighLines_23 rfl (lv_at hl 4 rfl) ?_
      refine lv_icmp_gt (tgt := 62) hx hb dX2_weighLines_24 (by decide) (fun c_6 => ?_) (fun c_6 => ?_)
      · skip
        have c_6 : al < (1 + i) := (nI_ltI (a := al) (b := (1 + i)) (by omega) (by omega)).mp c_6
        exact ur_vret C h hr hlocks (⟨rr, tb, by rw [hMi, hM1], hrr, by have hio : i = al := (by omega); subst hio; exact htb⟩) dX2_weighLines_62
      · skip
        have c_6 : ¬ al < (1 + i) := fun z => c_6 ((nI_ltI (a := al) (b := (1 + i)) (by omega) (by omega)).mpr z)
        refine lv_iload hx hb dX2_weighLines_27 (lv_at hl 0 rfl) ?_
        refine lv_iload_n hx hb dX2_weighLines_29 rfl (lv_at hl 4 rfl) ?_
        refine lv_iconst (v := (-1)) hx hb dX2_weighLines_30 (by decide) ?_
        refine lv_ixor hx hb dX2_weighLines_31 ?_
        refine lv_iand hx hb dX2_weighLines_32 ?_
        refine lv_if_ne (tgt := 56) hx hb dX2_weighLines_33 (by decide) (fun c_7 => ?_) (fun c_7 => ?_)
        · skip
          refine lv_iinc (v := nI (1 + i + 1)) (lv' := [(4, .int (nI (1 + i + 1))), (3, .int (nI (pop al))), (0, .ref (E.2.1 235)), (1, .int (nI w)), (2, .int (nI al))]) hx hb dX2_weighLines_56 hl (k := 0) rfl (nI_add (1 + i) 1) (by decide) rfl (fun ls hl => ?_)
          refine lv_goto (tgt := 21) hx hb dX2_weighLines_59 (by decide) ?_
          exact ih21  (i + 1) Mi tb (by omega) (by omega) hMi (xTab_skip htb c_7) _ _ _ h (lv_sub hl [0, 1, 2, 3, 4] rfl)
        · skip
          have hsb := sub4 (s := 1 + i) (by omega) hal6 c_7
          have hpp : 0 < pop (1 + i) := Nat.pos_of_ne_zero (fun z => by have := pop0 (show 1 + i < 64 by omega) z; omega)
          refine lv_aload_n hx hb dX2_weighLines_36 rfl (lv_at hl 2 rfl) ?_
          refine ur_get C h 235 (by decide) (uc_235 E _) (Cn := RX2) (T := TX2) (N := 5) rfl hin2 2 (by decide) (by decide +kernel) rfl dX2_weighLines_37 ?_
          refine lv_iload hx hb dX2_weighLines_40 (lv_at hl 0 rfl) ?_
          refine lv_aload_n hx hb dX2_weighLines_42 rfl (lv_at hl 2 rfl) ?_
          refine lv_iload hx hb dX2_weighLines_43 (lv_at hl 0 rfl) ?_
          refine lv_iload_n hx hb dX2_weighLines_45 rfl (lv_at hl 1 rfl) ?_
          refine lv_iload hx hb dX2_weighLines_46 (lv_at hl 0 rfl) ?_
          refine ur_callSi C h (As := [.int (nI (1 + i))]) (rest := [.int (nI (pop al)), .int (nI (1 + i)), .ref (E.2.1 235), .int (nI (1 + i)), .ref (E.2.1 237)]) (k_J6_bitCount_0f7a4 l E hI Mi (1 + i) (by omega)) (va_cwS 1 hts gX2_weighLines_J6_bitCount_0f7a4 rfl rfl rfl (by decide +kernel) ⟨Nat.le_of_ble_eq_true rfl, Nat.le_of_ble_eq_true rfl⟩) rfl hl.1 rfl (Nat.le_of_ble_eq_true rfl) dX2_weighLines_48 (fun r_8 M_9 H locs hw_9 h => ?_)
          obtain ⟨hu, er_8⟩ := hw_9
          subst hu
          refine ur_eq (y := nI (pop (1 + i))) er_8 ?_
          have hpr_8 : pop (1 + i) ≤ 6 := pop6 (by omega)
          refine lv_isub hx hb dX2_weighLines_51 ?_
          refine ur_eq (y := nI (pop al - pop (1 + i))) ((pk_sub (a := pop al) (b := pop (1 + i)) (by omega)).trans (congrArg nI (by omega))) ?_
          refine ur_callVi C h (k := 235) (As := [.int (nI (1 + i)), .int (nI (pop al - pop (1 + i)))]) (rest := [.int (nI (1 + i)), .ref (E.2.1 237)]) (k_X2_leastFor l E hI Mi (1 + i) (pop al - pop (1 + i)) (by omega) (by omega) n ((by rw [hMi]; exact hn1)) hn6) (cwV 2 hts gX2_weighLines_X2_leastFor rfl rfl rfl (by decide +kernel) ⟨Nat.le_of_ble_eq_true rfl, Nat.le_of_ble_eq_true rfl⟩) (by decide) (uc_235 E _) (T := TX2) (N := 5) rfl rfl hl.1 rfl (Nat.le_of_ble_eq_true rfl) dX2_weighLines_52 (fun r_10 M_11 H locs hw_11 h => ?_)
          obtain ⟨hu, er_10⟩ := hw_11
          subst hu
          refine ur_eq (y := xLf (xNext (Mi.1 236) (Mi.1 237) (1 + i) (pop al - pop (1 + i))) (1 + i) n) er_10 ?_
          refine ur_iast C h 237 (by decide) (uc_237 E) (1 + i) (by omega) (by decide) dX2_weighLines_55 (fun M_12 H locs eM_12 h => ?_)
          refine lv_iinc (v := nI (1 + i + 1)) (lv' := [(4, .int (nI (1 + i + 1))), (3, .int (nI (pop al))), (0, .ref (E.2.1 235)), (1, .int (nI w)), (2, .int (nI al))]) hx hb dX2_weighLines_56 hl (k := 0) rfl (nI_add (1 + i) 1) (by decide) rfl (fun ls hl => ?_)
          refine lv_goto (tgt := 21) hx hb dX2_weighLines_59 (by decide) ?_
          exact ih21  (i + 1) M_12 (upd tb (1 + i) _) (by omega) (by omega) (by rw [eM_12, hMi, u_set_row]) (xTab_step hn6 hal6 (by omega) htb c_7 (by first | (rw [hM1]; rfl) | (rw [hMi, hM1]; rfl))) _ _ _ h (lv_sub hl [0, 1, 2, 3, 4] rfl)
  exact lp21 _ 0 M_5 (upd (M_4.1 237) 0 0) (Nat.lt_succ_self _) (by omega) (by rw [eM_5]; conv => lhs; rw [← u_row_self M_4 237]; rw [u_set_row]) ⟨rfl, fun s h1 h2 _ => absurd (Nat.le_zero.mp h1) h2⟩ _ _ _ h (lv_sub hl [0, 1, 2, 3, 4] rfl)
set_option maxHeartbeats 1000000 in
set_option maxRecDepth 100000 in
theorem k_X2_firstOfBest (l : Launch) (E : uE) (hI : uI E) (M : uM) (s t : Nat) (hs : s < 64) (ht6 : t < 6) (n : Nat) (hn : M.1 1 0 = nI n) (hn6 : n ≤ 6) (hn0 : 0 < n) : Met l yX2_firstOfBest wsX2_firstOfBest ({ frames := 1, cells := 0, slots := 0, locals := 23 }) (va_Pc [.ref (E.2.1 235), .int (nI s), .int (nI t)] (uB E M)) (va_Qi (fun r u => M = u ∧ r = nI (fF (xG (M.1 236) (M.1 237) s t) (n - 1))) (uP E) (uA E)) 0 0 (uA E) := by
  have hin1 : ∀ w ∈ wsX10, w ∈ wsX2_firstOfBest := by decide +kernel
  have hin2 : ∀ w ∈ wsX20, w ∈ wsX2_firstOfBest := by decide +kernel
  refine u_start (cc := cX2_firstOfBest) (maxL := 4) (ret := (some .int)) hI (by decide) rfl (Nat.le_of_ble_eq_true rfl) ?_
  intro p_ e_ s_ m_ bl_ me_ c_ C hr hlocks h ls hl
  have hx := C.1.1
  have hb := C.1.2.1
  have hown : s_.vm.findClass RX2 = some m_.cls := C.1.2.2.2.1
  have hts := C.1.2.2.2.2
  have hl : lv_has ls 4 [(0, .ref (E.2.1 235)), (1, .int (nI s)), (2, .int (nI t))] := hl
  refine lv_iconst (v := 0) hx hb dX2_firstOfBest_0 (by decide) ?_
  refine lv_istore_n (lv' := [(3, .int 0), (0, .ref (E.2.1 235)), (1, .int (nI s)), (2, .int (nI t))]) hx hb dX2_firstOfBest_1 rfl hl (by decide) rfl (fun ls hl => ?_)
  have lp2 : ∀ (n2 : Nat) (i : Nat), n - i < n2 → (i ≤ n - 1) → (∀ q, q < i → (xG (M.1 236) (M.1 237) s t) q = false) → ∀ (H : Heap) (locs : List Loc) (ls : Array Slot), uH E M s_ H locs → lv_has ls 4 [(3, .int (nI i)), (0, .ref (E.2.1 235)), (1, .int (nI s)), (2, .int (nI t))] → W p_ l e_ ({ frames := 1, cells := 0, slots := 0, locals := 23 }) s_ m_ (List.toArray [.ref (E.2.1 235), .int (nI s), .int (nI t)]) bl_ me_ c_ H locs 0 0 (MQ bl_ (va_Qi (fun r u => M = u ∧ r = nI (fF (xG (M.1 236) (M.1 237) s t) (n - 1))) (uP E) (uA E)) (List.toArray [.ref (E.2.1 235), .int (nI s), .int (nI t)]) s_ 0 0 (uA E)) (F0 m_ 2 ls []) := by
    intro n2
    induction n2 with
    | zero => intro i hms; exact absurd hms (Nat.not_lt_zero _)
    | succ n2 ih2 =>
      intro i hms2 hi hno H locs ls h hl
      refine lv_iload_n hx hb dX2_firstOfBest_2 rfl (lv_at hl 0 rfl) ?_
      refine lv_aload_n hx hb dX2_firstOfBest_3 rfl (lv_at hl 1 rfl) ?_
      refine ur_get C h 235 (by decide) (uc_235 E _) (Cn := RX2) (T := TX2) (N := 5) rfl hin2 0 (by decide) (by decide +kernel) rfl dX2_firstOfBest_4 ?_
      refine ur_get C h 1 (by decide) (uc_1 E _) (Cn := RX1) (T := TX1) (N := 11) rfl hin1 0 (by decide) (by decide +kernel) rfl dX2_firstOfBest_7 ?_
      refine ur_eq (y := nI n) (hn) ?_
      refine lv_iconst (v := 1) hx hb dX2_firstOfBest_10 (by decide) ?_
      refine lv_isub hx hb dX2_firstOfBest_11 ?_
      refine ur_eq (y := nI (n - 1)) ((pk_sub (a := n) (b := 1) (by omega)).trans (congrArg nI (by omega))) ?_
      refine lv_icmp_ge (tgt := 45) hx hb dX2_firstOfBest_12 (by decide) (fun c_1 => ?_) (fun c_1 => ?_)
      · skip
        have c_1 : (n - 1) ≤ i := (nI_leI (a := (n - 1)) (b := i) (by omega) (by omega)).mp c_1
        refine lv_iload_n hx hb dX2_firstOfBest_45 rfl (lv_at hl 0 rfl) ?_
        exact ur_iret C h hr hlocks (⟨rfl, by rw [← show i = n - 1 by omega, fF_no hno]⟩) dX2_firstOfBest_46
      · skip
        have c_1 : ¬ (n - 1) ≤ i := fun z => c_1 ((nI_leI (a := (n - 1)) (b := i) (by omega) (by omega)).mpr z)
        refine lv_iload_n hx hb dX2_firstOfBest_15 rfl (lv_at hl 2 rfl) ?_
        refine lv_iload_n hx hb dX2_firstOfBest_16 rfl (lv_at hl 0 rfl) ?_
        refine ur_callNi C h (As := [.int (nI s), .int (nI i)]) (rest := []) (k_X6_has l E hI M (nI s) i) (⟨va_cnB 2 hts gX2_firstOfBest_X6_has_n101 rfl rfl rfl C.2.2.1.2 (hts (.initialized RX6) (by decide +kernel)) (by decide +kernel) ⟨Nat.le_of_ble_eq_true rfl, Nat.le_of_ble_eq_true rfl⟩, hts (.static yX6_has) (by decide +kernel), trivial⟩) rfl hl.1 rfl (Nat.le_of_ble_eq_true rfl) dX2_firstOfBest_17 (fun r_2 M_3 H locs hw_3 h => ?_)
        obtain ⟨hu, er_2⟩ := hw_3
        subst hu
        refine lv_if_eq (tgt := 39) hx hb dX2_firstOfBest_20 (by decide) (fun c_4 => ?_) (fun c_4 => ?_)
        · skip
          have c_4 : ¬ (ubit (nI s) i = true) := uz_f er_2 c_4
          refine lv_iinc (v := nI (i + 1)) (lv' := [(3, .int (nI (i + 1))), (0, .ref (E.2.1 235)), (1, .int (nI s)), (2, .int (nI t))]) hx hb dX2_firstOfBest_39 hl (k := 0) rfl (nI_add i 1) (by decide) rfl (fun ls hl => ?_)
          refine lv_goto (tgt := 2) hx hb dX2_firstOfBest_42 (by decide) ?_
          exact ih2  (i + 1) (by omega) (by omega) (fun q hq => by rcases Nat.lt_or_ge q i with z | z; exact hno q z; rw [show q = i by omega]; exact (by unfold xG; rw [Bool.eq_false_iff.mpr c_4]; rfl)) _ _ _ h (lv_sub hl [0, 1, 2, 3] rfl)
        · skip
          have c_4 : ubit (nI s) i = true := uz_t er_2 c_4
          refine lv_aload_n hx hb dX2_firstOfBest_23 rfl (lv_at hl 1 rfl) ?_
          refine lv_iload_n hx hb dX2_firstOfBest_24 rfl (lv_at hl 0 rfl) ?_
          refine lv_iload_n hx hb dX2_firstOfBest_25 rfl (lv_at hl 2 rfl) ?_
          refine lv_iload_n hx hb dX2_firstOfBest_26 rfl (lv_at hl 3 rfl) ?_
          refine ur_callVi C h (k := 235) (As := [.int (nI i), .int (nI s), .int (nI t)]) (rest := []) (k_X2_wrongsIfNext l E hI M i s t (by omega) (by omega) (by omega)) (cwV 3 hts gX2_firstOfBest_X2_wrongsIfNext rfl rfl rfl (by decide +kernel) ⟨Nat.le_of_ble_eq_true rfl, Nat.le_of_ble_eq_true rfl⟩) (by decide) (uc_235 E _) (T := TX2) (N := 5) rfl rfl hl.1 rfl (Nat.le_of_ble_eq_true rfl) dX2_firstOfBest_27 (fun r_5 M_6 H locs hw_6 h => ?_)
          obtain ⟨hu, er_5⟩ := hw_6
          subst hu
          refine ur_eq (y := xNext (M.1 236) (M.1 237) s t i) er_5 ?_
          refine lv_aload_n hx hb dX2_firstOfBest_30 rfl (lv_at hl 1 rfl) ?_
          refine ur_get C h 235 (by decide) (uc_235 E _) (Cn := RX2) (T := TX2) (N := 5) rfl hin2 2 (by decide) (by decide +kernel) rfl dX2_firstOfBest_31 ?_
          refine lv_iload_n hx hb dX2_firstOfBest_34 rfl (lv_at hl 2 rfl) ?_
          refine ur_iald C h 237 (by decide) (uc_237 E _) (s) (by omega) (by decide) dX2_firstOfBest_35 ?_
          refine lv_icmp_eq (tgt := 45) hx hb dX2_firstOfBest_36 (by decide) (fun c_7 => ?_) (fun c_7 => ?_)
          · skip
            refine lv_iload_n hx hb dX2_firstOfBest_45 rfl (lv_at hl 0 rfl) ?_
            exact ur_iret C h hr hlocks (⟨rfl, by have hgi : xG (M.1 236) (M.1 237) s t i = true := (by unfold xG; rw [c_4, Bool.true_and]; exact decide_eq_true c_7); rw [show n - 1 = i + 1 + (n - 1 - (i + 1)) by omega, fF_at hno hgi]⟩) dX2_firstOfBest_46
          · skip
            refine lv_iinc (v := nI (i + 1)) (lv' := [(3, .int (nI (i + 1))), (0, .ref (E.2.1 235)), (1, .int (nI s)), (2, .int (nI t))]) hx hb dX2_firstOfBest_39 hl (k := 0) rfl (nI_add i 1) (by decide) rfl (fun ls hl => ?_)
            refine lv_goto (tgt := 2) hx hb dX2_firstOfBest_42 (by decide) ?_
            exact ih2  (i + 1) (by omega) (by omega) (fun q hq => by rcases Nat.lt_or_ge q i with z | z; exact hno q z; rw [show q = i by omega]; exact (by unfold xG; rw [c_4, Bool.true_and]; exact decide_eq_false c_7)) _ _ _ h (lv_sub hl [0, 1, 2, 3] rfl)
  exact lp2 _ 0 (Nat.lt_succ_self _) (by omega) (fun q h => absurd h (Nat.not_lt_zero q)) _ _ _ h (lv_sub hl [0, 1, 2, 3] rfl)
set_option maxHeartbeats 1000000 in
set_option maxRecDepth 100000 in
theorem k_X2_whoComesAt (l : Launch) (E : uE) (hI : uI E) (M : uM) (kk al : Nat) (hkk : kk < 6) (hal6 : al < 64) (n : Nat) (hn : M.1 1 0 = nI n) (hn6 : n ≤ 6) (hn0 : 0 < n) : Met l yX2_whoComesAt wsX2_whoComesAt ({ frames := 2, cells := 0, slots := 0, locals := 46 }) (va_Pc [.ref (E.2.1 235), .int (nI kk), .int (nI al)] (uB E M)) (va_Qi (fun r u => M = u ∧ r = nI (xCome (M.1 236) (M.1 237) n al kk).2) (uP E) (uA E)) 0 0 (uA E) := by
  refine u_start (cc := cX2_whoComesAt) (maxL := 6) (ret := (some .int)) hI (by decide) rfl (Nat.le_of_ble_eq_true rfl) ?_
  intro p_ e_ s_ m_ bl_ me_ c_ C hr hlocks h ls hl
  have hx := C.1.1
  have hb := C.1.2.1
  have hown : s_.vm.findClass RX2 = some m_.cls := C.1.2.2.2.1
  have hts := C.1.2.2.2.2
  have hl : lv_has ls 6 [(0, .ref (E.2.1 235)), (1, .int (nI kk)), (2, .int (nI al))] := hl
  refine lv_iload_n hx hb dX2_whoComesAt_0 rfl (lv_at hl 2 rfl) ?_
  refine lv_istore_n (lv' := [(3, .int (nI al)), (0, .ref (E.2.1 235)), (1, .int (nI kk)), (2, .int (nI al))]) hx hb dX2_whoComesAt_1 rfl hl (by decide) rfl (fun ls hl => ?_)
  refine lv_aload_n hx hb dX2_whoComesAt_2 rfl (lv_at hl 1 rfl) ?_
  refine lv_iload_n hx hb dX2_whoComesAt_3 rfl (lv_at hl 0 rfl) ?_
  refine lv_iconst (v := 0) hx hb dX2_whoComesAt_4 (by decide) ?_
  refine ur_callVi C h (k := 235) (As := [.int (nI al), .int 0]) (rest := []) (k_X2_firstOfBest l E hI M al 0 (by omega) (by omega) n hn hn6 hn0) (cwV 2 hts gX2_whoComesAt_X2_firstOfBest rfl rfl rfl (by decide +kernel) ⟨Nat.le_of_ble_eq_true rfl, Nat.le_of_ble_eq_true rfl⟩) (by decide) (uc_235 E _) (T := TX2) (N := 5) rfl rfl hl.1 rfl (Nat.le_of_ble_eq_true rfl) dX2_whoComesAt_5 (fun r_1 M_2 H locs hw_2 h => ?_)
  obtain ⟨hu, er_1⟩ := hw_2
  subst hu
  refine ur_eq (y := nI (fF (xG (M.1 236) (M.1 237) al 0) (n - 1))) er_1 ?_
  refine lv_istore (lv' := [(4, .int (nI (fF (xG (M.1 236) (M.1 237) al 0) (n - 1)))), (3, .int (nI al)), (0, .ref (E.2.1 235)), (1, .int (nI kk)), (2, .int (nI al))]) hx hb dX2_whoComesAt_8 hl (by decide) rfl (fun ls hl => ?_)
  refine lv_iconst (v := 1) hx hb dX2_whoComesAt_10 (by decide) ?_
  refine lv_istore (lv' := [(5, .int 1), (4, .int (nI (fF (xG (M.1 236) (M.1 237) al 0) (n - 1)))), (3, .int (nI al)), (0, .ref (E.2.1 235)), (1, .int (nI kk)), (2, .int (nI al))]) hx hb dX2_whoComesAt_11 hl (by decide) rfl (fun ls hl => ?_)
  have lp13 : ∀ (n13 : Nat) (i s0 nx : Nat), kk - i < n13 → (i ≤ kk) → (s0 < 64) → (nx < 6) → ((s0, nx) = xCome (M.1 236) (M.1 237) n al i) → ∀ (H : Heap) (locs : List Loc) (ls : Array Slot), uH E M s_ H locs → lv_has ls 6 [(5, .int (nI (1 + i))), (4, .int (nI nx)), (3, .int (nI s0)), (0, .ref (E.2.1 235)), (1, .int (nI kk)), (2, .int (nI al))] → W p_ l e_ ({ frames := 2, cells := 0, slots := 0, locals := 46 }) s_ m_ (List.toArray [.ref (E.2.1 235), .int (nI kk), .int (nI al)]) bl_ me_ c_ H locs 0 0 (MQ bl_ (va_Qi (fun r u => M = u ∧ r = nI (xCome (M.1 236) (M.1 237) n al kk).2) (uP E) (uA E)) (List.toArray [.ref (E.2.1 235), .int (nI kk), .int (nI al)]) s_ 0 0 (uA E)) (F0 m_ 13 ls []) := by
    intro n13
    induction n13 with
    | zero => intro i s0 nx hms; exact absurd hms (Nat.not_lt_zero _)
    | succ n13 ih13 =>
      intro i s0 nx hms13 hi hs0 hnx hbl H locs ls h hl
      refine lv_iload hx hb dX2_whoComesAt_13 (lv_at hl 0 rfl) ?_
      refine lv_iload_n hx hb dX2_whoComesAt_15 rfl (lv_at hl 4 rfl) ?_
      refine lv_icmp_gt (tgt := 43) hx hb dX2_whoComesAt_16 (by decide) (fun c_3 => ?_) (fun c_3 => ?_)
      · skip
        have c_3 : kk < (1 + i) := (nI_ltI (a := kk) (b := (1 + i)) (by omega) (by omega)).mp c_3
        refine lv_iload hx hb dX2_whoComesAt_43 (lv_at hl 1 rfl) ?_
        exact ur_iret C h hr hlocks (⟨rfl, by rw [← show i = kk by omega, ← hbl]⟩) dX2_whoComesAt_45
      · skip
        have c_3 : ¬ kk < (1 + i) := fun z => c_3 ((nI_ltI (a := kk) (b := (1 + i)) (by omega) (by omega)).mpr z)
        refine lv_iload_n hx hb dX2_whoComesAt_19 rfl (lv_at hl 2 rfl) ?_
        refine lv_iconst (v := 1) hx hb dX2_whoComesAt_20 (by decide) ?_
        refine lv_iload hx hb dX2_whoComesAt_21 (lv_at hl 1 rfl) ?_
        refine lv_ishl hx hb dX2_whoComesAt_23 ?_
        refine lv_iconst (v := (-1)) hx hb dX2_whoComesAt_24 (by decide) ?_
        refine lv_ixor hx hb dX2_whoComesAt_25 ?_
        refine lv_iand hx hb dX2_whoComesAt_26 ?_
        obtain ⟨hc1, hc2⟩ := clr_e (s := s0) (p := nx) hs0 hnx
        refine ur_eq (y := nI (clr s0 nx)) hc1 ?_
        refine lv_istore_n (lv' := [(3, .int (nI (clr s0 nx))), (5, .int (nI (1 + i))), (4, .int (nI nx)), (0, .ref (E.2.1 235)), (1, .int (nI kk)), (2, .int (nI al))]) hx hb dX2_whoComesAt_27 rfl hl (by decide) rfl (fun ls hl => ?_)
        refine lv_aload_n hx hb dX2_whoComesAt_28 rfl (lv_at hl 3 rfl) ?_
        refine lv_iload_n hx hb dX2_whoComesAt_29 rfl (lv_at hl 0 rfl) ?_
        refine lv_iload hx hb dX2_whoComesAt_30 (lv_at hl 1 rfl) ?_
        refine ur_callVi C h (k := 235) (As := [.int (nI (clr s0 nx)), .int (nI (1 + i))]) (rest := []) (k_X2_firstOfBest l E hI M (clr s0 nx) (1 + i) (by omega) (by omega) n hn hn6 hn0) (cwV 2 hts gX2_whoComesAt_X2_firstOfBest rfl rfl rfl (by decide +kernel) ⟨Nat.le_of_ble_eq_true rfl, Nat.le_of_ble_eq_true rfl⟩) (by decide) (uc_235 E _) (T := TX2) (N := 5) rfl rfl hl.1 rfl (Nat.le_of_ble_eq_true rfl) dX2_whoComesAt_32 (fun r_4 M_5 H locs hw_5 h => ?_)
        obtain ⟨hu, er_4⟩ := hw_5
        subst hu
        refine ur_eq (y := nI (fF (xG (M.1 236) (M.1 237) (clr s0 nx) (1 + i)) (n - 1))) er_4 ?_
        refine lv_istore (lv' := [(4, .int (nI (fF (xG (M.1 236) (M.1 237) (clr s0 nx) (1 + i)) (n - 1)))), (3, .int (nI (clr s0 nx))), (5, .int (nI (1 + i))), (0, .ref (E.2.1 235)), (1, .int (nI kk)), (2, .int (nI al))]) hx hb dX2_whoComesAt_35 hl (by decide) rfl (fun ls hl => ?_)
        refine lv_iinc (v := nI (1 + i + 1)) (lv' := [(5, .int (nI (1 + i + 1))), (4, .int (nI (fF (xG (M.1 236) (M.1 237) (clr s0 nx) (1 + i)) (n - 1)))), (3, .int (nI (clr s0 nx))), (0, .ref (E.2.1 235)), (1, .int (nI kk)), (2, .int (nI al))]) hx hb dX2_whoComesAt_37 hl (k := 2) rfl (nI_add (1 + i) 1) (by decide) rfl (fun ls hl => ?_)
        refine lv_goto (tgt := 13) hx hb dX2_whoComesAt_40 (by decide) ?_
        exact ih13  (i + 1) (clr s0 nx) (fF (xG (M.1 236) (M.1 237) (clr s0 nx) (1 + i)) (n - 1)) (by omega) (by omega) hc2 (Nat.lt_of_le_of_lt (fF_le _ _) (by omega)) (by rw [xCome, ← hbl, Nat.add_comm i 1]) _ _ _ h (lv_sub hl [0, 1, 2, 3, 4, 5] rfl)
  exact lp13 _ 0 al (fF (xG (M.1 236) (M.1 237) al 0) (n - 1)) (Nat.lt_succ_self _) (by omega) (by omega) (Nat.lt_of_le_of_lt (fF_le _ _) (by omega)) rfl _ _ _ h (lv_sub hl [0, 1, 2, 3, 4, 5] rfl)
