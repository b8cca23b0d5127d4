set_option maxHeartbeats 1000000 in
set_option maxRecDepth 100000 in
theorem k_X7_here (l : Launch) (E : uE) (hI : uI E) (M : uM) (ty : Nat) (hty : M.1 251 2 = nI ty) (hty90 : ty ≤ 90) (p : Nat) (hp : M.1 251 3 = nI p) (hpt : p ≤ ty) : Met l yX7_here wsX7_here ({ frames := 0, cells := 0, slots := 0, locals := 0 }) (va_Pc [.ref (E.2.1 251)] (uB E M)) (va_Qi (fun r u => u = uSet M 251 3 (nI (tSk (M.1 253) ty p)) ∧ r = tAt (M.1 253) ty p) (uP E) (uA E)) 0 0 (uA E) := by
  have hin7 : ∀ w ∈ wsX70, w ∈ wsX7_here := by decide +kernel
  refine u_start (cc := cX7_here) (maxL := 1) (ret := (some .int)) hI (by decide) rfl (Nat.le_of_ble_eq_true rfl) ?_
  intro p_ e_ s_ m_ bl_ me_ c_ C hr hlocks h ls hl
  have hx := C.1.1
  have hb := C.1.2.1
  have hown : s_.vm.findClass RX7 = some m_.cls := C.1.2.2.2.1
  have hts := C.1.2.2.2.2
  have hl : lv_has ls 1 [(0, .ref (E.2.1 251))] := hl
  have lp0 : ∀ (n0 : Nat) (q : Nat) (Mq : uM), ty - q < n0 → (p ≤ q) → (q ≤ ty) → (Mq = uSet M 251 3 (nI q)) → (tSk (M.1 253) ty q = tSk (M.1 253) ty p) → ∀ (H : Heap) (locs : List Loc) (ls : Array Slot), uH E Mq s_ H locs → lv_has ls 1 [(0, .ref (E.2.1 251))] → W p_ l e_ ({ frames := 0, cells := 0, slots := 0, locals := 0 }) s_ m_ (List.toArray [.ref (E.2.1 251)]) bl_ me_ c_ H locs 0 0 (MQ bl_ (va_Qi (fun r u => u = uSet M 251 3 (nI (tSk (M.1 253) ty p)) ∧ r = tAt (M.1 253) ty p) (uP E) (uA E)) (List.toArray [.ref (E.2.1 251)]) s_ 0 0 (uA E)) (F0 m_ 0 ls []) := by
    intro n0
    induction n0 with
    | zero => intro q Mq hms; exact absurd hms (Nat.not_lt_zero _)
    | succ n0 ih0 =>
      intro q Mq hms0 hq hq2 hMq hsk H locs ls h hl
      refine lv_aload_n hx hb dX7_here_0 rfl (lv_at hl 0 rfl) ?_
      have hL : Mq.1 253 = M.1 253 := by rw [hMq]; rfl
      refine ur_get C h 251 (by decide) (uc_251 E _) (Cn := RX7) (T := TX7) (N := 17) rfl hin7 3 (by decide) (by decide +kernel) rfl dX7_here_1 ?_
      refine ur_eq (y := nI q) ((by rw [hMq]; rfl)) ?_
      refine lv_aload_n hx hb dX7_here_4 rfl (lv_at hl 0 rfl) ?_
      refine ur_get C h 251 (by decide) (uc_251 E _) (Cn := RX7) (T := TX7) (N := 17) rfl hin7 2 (by decide) (by decide +kernel) rfl dX7_here_5 ?_
      refine ur_eq (y := nI ty) ((by rw [hMq, u_set1, if_pos rfl, if_neg (by decide)]; exact hty)) ?_
      refine lv_icmp_ge (tgt := 38) hx hb dX7_here_8 (by decide) (fun c_1 => ?_) (fun c_1 => ?_)
      · skip
        have c_1 : ty ≤ q := (nI_leI (a := ty) (b := q) (by omega) (by omega)).mp c_1
        refine lv_aload_n hx hb dX7_here_38 rfl (lv_at hl 0 rfl) ?_
        refine ur_get C h 251 (by decide) (uc_251 E _) (Cn := RX7) (T := TX7) (N := 17) rfl hin7 3 (by decide) (by decide +kernel) rfl dX7_here_39 ?_
        refine ur_eq (y := nI q) ((by rw [hMq]; rfl)) ?_
        refine lv_aload_n hx hb dX7_here_42 rfl (lv_at hl 0 rfl) ?_
        refine ur_get C h 251 (by decide) (uc_251 E _) (Cn := RX7) (T := TX7) (N := 17) rfl hin7 2 (by decide) (by decide +kernel) rfl dX7_here_43 ?_
        refine ur_eq (y := nI ty) ((by rw [hMq, u_set1, if_pos rfl, if_neg (by decide)]; exact hty)) ?_
        refine lv_icmp_ge (tgt := 61) hx hb dX7_here_46 (by decide) (fun c_2 => ?_) (fun c_2 => ?_)
        · skip
          have c_2 : ty ≤ q := (nI_leI (a := ty) (b := q) (by omega) (by omega)).mp c_2
          refine lv_iconst (v := 0) hx hb dX7_here_61 (by decide) ?_
          exact ur_iret C h hr hlocks (⟨by rw [← hsk, tSk_end c_1]; exact hMq, by unfold tAt; rw [← hsk, tSk_end c_1, if_neg (by omega)]⟩) dX7_here_62
        · skip
          have c_2 : ¬ ty ≤ q := fun z => c_2 ((nI_leI (a := ty) (b := q) (by omega) (by omega)).mpr z)
          exact absurd c_1 c_2
      · skip
        have c_1 : ¬ ty ≤ q := fun z => c_1 ((nI_leI (a := ty) (b := q) (by omega) (by omega)).mpr z)
        refine lv_aload_n hx hb dX7_here_11 rfl (lv_at hl 0 rfl) ?_
        refine ur_get C h 251 (by decide) (uc_251 E _) (Cn := RX7) (T := TX7) (N := 17) rfl hin7 1 (by decide) (by decide +kernel) rfl dX7_here_12 ?_
        refine lv_aload_n hx hb dX7_here_15 rfl (lv_at hl 0 rfl) ?_
        refine ur_get C h 251 (by decide) (uc_251 E _) (Cn := RX7) (T := TX7) (N := 17) rfl hin7 3 (by decide) (by decide +kernel) rfl dX7_here_16 ?_
        refine ur_eq (y := nI q) ((by rw [hMq]; rfl)) ?_
        refine ur_iald C h 253 (by decide) (uc_253 E _) (q) (by omega) (by decide) dX7_here_19 ?_
        refine lv_bipush (v := 32) hx hb dX7_here_20 (by decide) ?_
        refine lv_icmp_ne (tgt := 38) hx hb dX7_here_22 (by decide) (fun c_3 => ?_) (fun c_3 => ?_)
        · skip
          refine lv_aload_n hx hb dX7_here_38 rfl (lv_at hl 0 rfl) ?_
          refine ur_get C h 251 (by decide) (uc_251 E _) (Cn := RX7) (T := TX7) (N := 17) rfl hin7 3 (by decide) (by decide +kernel) rfl dX7_here_39 ?_
          refine ur_eq (y := nI q) ((by rw [hMq]; rfl)) ?_
          refine lv_aload_n hx hb dX7_here_42 rfl (lv_at hl 0 rfl) ?_
          refine ur_get C h 251 (by decide) (uc_251 E _) (Cn := RX7) (T := TX7) (N := 17) rfl hin7 2 (by decide) (by decide +kernel) rfl dX7_here_43 ?_
          refine ur_eq (y := nI ty) ((by rw [hMq, u_set1, if_pos rfl, if_neg (by decide)]; exact hty)) ?_
          refine lv_icmp_ge (tgt := 61) hx hb dX7_here_46 (by decide) (fun c_4 => ?_) (fun c_4 => ?_)
          · skip
            have c_4 : ty ≤ q := (nI_leI (a := ty) (b := q) (by omega) (by omega)).mp c_4
            exact absurd c_4 c_1
          · skip
            have c_4 : ¬ ty ≤ q := fun z => c_4 ((nI_leI (a := ty) (b := q) (by omega) (by omega)).mpr z)
            refine lv_aload_n hx hb dX7_here_49 rfl (lv_at hl 0 rfl) ?_
            refine ur_get C h 251 (by decide) (uc_251 E _) (Cn := RX7) (T := TX7) (N := 17) rfl hin7 1 (by decide) (by decide +kernel) rfl dX7_here_50 ?_
            refine lv_aload_n hx hb dX7_here_53 rfl (lv_at hl 0 rfl) ?_
            refine ur_get C h 251 (by decide) (uc_251 E _) (Cn := RX7) (T := TX7) (N := 17) rfl hin7 3 (by decide) (by decide +kernel) rfl dX7_here_54 ?_
            refine ur_eq (y := nI q) ((by rw [hMq]; rfl)) ?_
            refine ur_iald C h 253 (by decide) (uc_253 E _) (q) (by omega) (by decide) dX7_here_57 ?_
            refine lv_goto (tgt := 62) hx hb dX7_here_58 (by decide) ?_
            exact ur_iret C h hr hlocks (by have hst := tSk_stop (L := M.1 253) (n := ty) (q := q) (by omega) (by rw [← hL]; exact c_3); exact ⟨by rw [← hsk, hst]; exact hMq, by unfold tAt; rw [← hsk, hst, if_pos (by omega), hL]⟩) dX7_here_62
        · skip
          refine lv_aload_n hx hb dX7_here_25 rfl (lv_at hl 0 rfl) ?_
          refine lv_dup hx hb dX7_here_26 rfl ?_
          refine ur_get C h 251 (by decide) (uc_251 E _) (Cn := RX7) (T := TX7) (N := 17) rfl hin7 3 (by decide) (by decide +kernel) rfl dX7_here_27 ?_
          refine ur_eq (y := nI q) ((by rw [hMq]; rfl)) ?_
          refine lv_iconst (v := 1) hx hb dX7_here_30 (by decide) ?_
          refine lv_iadd hx hb dX7_here_31 ?_
          refine ur_eq (y := nI (q + 1)) (nI_add q 1) ?_
          refine ur_puti C h 251 (by decide) (uc_251 E _) (Cn := RX7) (T := TX7) (N := 17) rfl hin7 tyX7 tyX7_ok nmX7 3 (by decide) (by decide +kernel) rfl rfl rfl (Nat.le_of_ble_eq_true rfl) (us_251_3 E _ _) dX7_here_32 (fun M_5 H locs eM_5 h => ?_)
          refine lv_goto (tgt := 0) hx hb dX7_here_35 (by decide) ?_
          exact ih0  (q + 1) M_5 (by omega) (by omega) (by omega) (by rw [eM_5, hMq, u_set_set]) ((tSk_step (by omega) (by rw [← hL]; exact c_3)).trans hsk) _ _ _ h (lv_sub hl [0] rfl)
  exact lp0 _ p M (Nat.lt_succ_self _) (Nat.le_refl _) hpt (u_set_self hp).symm rfl _ _ _ h (lv_sub hl [0] rfl)
set_option maxHeartbeats 1000000 in
set_option maxRecDepth 100000 in
theorem k_X7_must_t (l : Launch) (E : uE) (hI : uI E) (M : uM) (hf : M.1 251 4 = 0) (p : Nat) (hp : M.1 251 3 = nI p) : Met l yX7_must wsX7_must ({ frames := 0, cells := 0, slots := 0, locals := 0 }) (va_Pc [.ref (E.2.1 251), .int 1] (uB E M)) (va_Qv (fun u => u = uSet M 251 3 (nI (p + 1))) (uP E) (uA E)) 0 0 (uA E) := by
  have hin7 : ∀ w ∈ wsX70, w ∈ wsX7_must := by decide +kernel
  refine u_start (cc := cX7_must) (maxL := 2) (ret := none) hI (by decide) rfl (Nat.le_of_ble_eq_true rfl) ?_
  intro p_ e_ s_ m_ bl_ me_ c_ C hr hlocks h ls hl
  have hx := C.1.1
  have hb := C.1.2.1
  have hown : s_.vm.findClass RX7 = some m_.cls := C.1.2.2.2.1
  have hts := C.1.2.2.2.2
  have hl : lv_has ls 2 [(0, .ref (E.2.1 251)), (1, .int 1)] := hl
  refine lv_aload_n hx hb dX7_must_0 rfl (lv_at hl 0 rfl) ?_
  refine lv_aload_n hx hb dX7_must_1 rfl (lv_at hl 0 rfl) ?_
  refine ur_get C h 251 (by decide) (uc_251 E _) (Cn := RX7) (T := TX7) (N := 17) rfl hin7 4 (by decide) (by decide +kernel) rfl dX7_must_2 ?_
  refine ur_eq (y := 0) hf ?_
  refine lv_if_ne (tgt := 12) hx hb dX7_must_5 (by decide) (fun z => absurd z (by decide)) (fun c_1 => ?_)
  refine lv_iload_n hx hb dX7_must_8 rfl (lv_at hl 1 rfl) ?_
  refine lv_if_ne (tgt := 16) hx hb dX7_must_9 (by decide) (fun c_2 => ?_) (fun z => absurd z (by decide))
  refine lv_iconst (v := 0) hx hb dX7_must_16 (by decide) ?_
  refine ur_puti C h 251 (by decide) (uc_251 E _) (Cn := RX7) (T := TX7) (N := 17) rfl hin7 tyX7 tyX7_ok nmX7 4 (by decide) (by decide +kernel) rfl (by rfl) rfl (Nat.le_of_ble_eq_true rfl) (us_251_4 E _ _) dX7_must_17 (fun M_3 H locs eM_3 h => ?_)
  refine lv_aload_n hx hb dX7_must_20 rfl (lv_at hl 0 rfl) ?_
  refine lv_dup hx hb dX7_must_21 rfl ?_
  refine ur_get C h 251 (by decide) (uc_251 E _) (Cn := RX7) (T := TX7) (N := 17) rfl hin7 3 (by decide) (by decide +kernel) rfl dX7_must_22 ?_
  refine ur_eq (y := nI p) (by rw [eM_3, u_set1, if_pos rfl, if_neg (by omega)]; exact hp) ?_
  refine lv_aload_n hx hb dX7_must_25 rfl (lv_at hl 0 rfl) ?_
  refine ur_get C h 251 (by decide) (uc_251 E _) (Cn := RX7) (T := TX7) (N := 17) rfl hin7 4 (by decide) (by decide +kernel) rfl dX7_must_26 ?_
  refine ur_eq (y := nI 0) (by rw [eM_3, u_set1, if_pos rfl, if_pos rfl]; try rfl) ?_
  refine ur_eq (y := 0) rfl ?_
  refine lv_if_eq (tgt := 36) hx hb dX7_must_29 (by decide) (fun c_4 => ?_) (fun z => absurd z (by decide))
  refine lv_iconst (v := 1) hx hb dX7_must_36 (by decide) ?_
  refine lv_iadd hx hb dX7_must_37 ?_
  refine ur_eq (y := nI (p + 1)) (nI_add p 1) ?_
  refine ur_puti C h 251 (by decide) (uc_251 E _) (Cn := RX7) (T := TX7) (N := 17) rfl hin7 tyX7 tyX7_ok nmX7 3 (by decide) (by decide +kernel) rfl rfl rfl (Nat.le_of_ble_eq_true rfl) (us_251_3 E _ _) dX7_must_38 (fun M_5 H locs eM_5 h => ?_)
  exact ur_vret C h hr hlocks (by subst eM_3; subst eM_5; rw [u_set_self hf]) dX7_must_41
set_option maxHeartbeats 1000000 in
set_option maxRecDepth 100000 in
theorem k_X7_must_n (l : Launch) (E : uE) (hI : uI E) (M : uM) (hf : M.1 251 4 = 0) (p : Nat) (hp : M.1 251 3 = nI p) : Met l yX7_must wsX7_must ({ frames := 0, cells := 0, slots := 0, locals := 0 }) (va_Pc [.ref (E.2.1 251), .int 0] (uB E M)) (va_Qv (fun u => u = uSet M 251 4 1) (uP E) (uA E)) 0 0 (uA E) := by
  have hin7 : ∀ w ∈ wsX70, w ∈ wsX7_must := by decide +kernel
  refine u_start (cc := cX7_must) (maxL := 2) (ret := none) hI (by decide) rfl (Nat.le_of_ble_eq_true rfl) ?_
  intro p_ e_ s_ m_ bl_ me_ c_ C hr hlocks h ls hl
  have hx := C.1.1
  have hb := C.1.2.1
  have hown : s_.vm.findClass RX7 = some m_.cls := C.1.2.2.2.1
  have hts := C.1.2.2.2.2
  have hl : lv_has ls 2 [(0, .ref (E.2.1 251)), (1, .int 0)] := hl
  refine lv_aload_n hx hb dX7_must_0 rfl (lv_at hl 0 rfl) ?_
  refine lv_aload_n hx hb dX7_must_1 rfl (lv_at hl 0 rfl) ?_
  refine ur_get C h 251 (by decide) (uc_251 E _) (Cn := RX7) (T := TX7) (N := 17) rfl hin7 4 (by decide) (by decide +kernel) rfl dX7_must_2 ?_
  refine ur_eq (y := 0) hf ?_
  refine lv_if_ne (tgt := 12) hx hb dX7_must_5 (by decide) (fun z => absurd z (by decide)) (fun c_1 => ?_)
  refine lv_iload_n hx hb dX7_must_8 rfl (lv_at hl 1 rfl) ?_
  refine lv_if_ne (tgt := 16) hx hb dX7_must_9 (by decide) (fun z => absurd z (by decide)) (fun c_2 => ?_)
  refine lv_iconst (v := 1) hx hb dX7_must_12 (by decide) ?_
  refine lv_goto (tgt := 17) hx hb dX7_must_13 (by decide) ?_
  refine ur_puti C h 251 (by decide) (uc_251 E _) (Cn := RX7) (T := TX7) (N := 17) rfl hin7 tyX7 tyX7_ok nmX7 4 (by decide) (by decide +kernel) rfl (by rfl) rfl (Nat.le_of_ble_eq_true rfl) (us_251_4 E _ _) dX7_must_17 (fun M_3 H locs eM_3 h => ?_)
  refine lv_aload_n hx hb dX7_must_20 rfl (lv_at hl 0 rfl) ?_
  refine lv_dup hx hb dX7_must_21 rfl ?_
  refine ur_get C h 251 (by decide) (uc_251 E _) (Cn := RX7) (T := TX7) (N := 17) rfl hin7 3 (by decide) (by decide +kernel) rfl dX7_must_22 ?_
  refine ur_eq (y := nI p) (by rw [eM_3, u_set1, if_pos rfl, if_neg (by omega)]; exact hp) ?_
  refine lv_aload_n hx hb dX7_must_25 rfl (lv_at hl 0 rfl) ?_
  refine ur_get C h 251 (by decide) (uc_251 E _) (Cn := RX7) (T := TX7) (N := 17) rfl hin7 4 (by decide) (by decide +kernel) rfl dX7_must_26 ?_
  refine ur_eq (y := nI 1) (by rw [eM_3, u_set1, if_pos rfl, if_pos rfl]; try rfl) ?_
  refine ur_eq (y := 1) rfl ?_
  refine lv_if_eq (tgt := 36) hx hb dX7_must_29 (by decide) (fun z => absurd z (by decide)) (fun c_4 => ?_)
  refine lv_iconst (v := 0) hx hb dX7_must_32 (by decide) ?_
  refine lv_goto (tgt := 37) hx hb dX7_must_33 (by decide) ?_
  refine lv_iadd hx hb dX7_must_37 ?_
  refine ur_eq (y := nI (p)) (nI_add p 0) ?_
  refine ur_puti C h 251 (by decide) (uc_251 E _) (Cn := RX7) (T := TX7) (N := 17) rfl hin7 tyX7 tyX7_ok nmX7 3 (by decide) (by decide +kernel) rfl rfl rfl (Nat.le_of_ble_eq_true rfl) (us_251_3 E _ _) dX7_must_38 (fun M_5 H locs eM_5 h => ?_)
  exact ur_vret C h hr hlocks (by subst eM_3; subst eM_5; exact u_set_self (by rw [u_set1, if_pos rfl, if_neg (by decide)]; exact hp)) dX7_must_41
set_option maxHeartbeats 1000000 in
set_option maxRecDepth 100000 in
theorem k_X7_must_f (l : Launch) (E : uE) (hI : uI E) (M : uM) (x1 : Int32) (hf : M.1 251 4 = 1) (p : Nat) (hp : M.1 251 3 = nI p) : Met l yX7_must wsX7_must ({ frames := 0, cells := 0, slots := 0, locals := 0 }) (va_Pc [.ref (E.2.1 251), .int x1] (uB E M)) (va_Qv (fun u => M = u) (uP E) (uA E)) 0 0 (uA E) := by
  have hin7 : ∀ w ∈ wsX70, w ∈ wsX7_must := by decide +kernel
  refine u_start (cc := cX7_must) (maxL := 2) (ret := none) hI (by decide) rfl (Nat.le_of_ble_eq_true rfl) ?_
  intro p_ e_ s_ m_ bl_ me_ c_ C hr hlocks h ls hl
  have hx := C.1.1
  have hb := C.1.2.1
  have hown : s_.vm.findClass RX7 = some m_.cls := C.1.2.2.2.1
  have hts := C.1.2.2.2.2
  have hl : lv_has ls 2 [(0, .ref (E.2.1 251)), (1, .int x1)] := hl
  refine lv_aload_n hx hb dX7_must_0 rfl (lv_at hl 0 rfl) ?_
  refine lv_aload_n hx hb dX7_must_1 rfl (lv_at hl 0 rfl) ?_
  refine ur_get C h 251 (by decide) (uc_251 E _) (Cn := RX7) (T := TX7) (N := 17) rfl hin7 4 (by decide) (by decide +kernel) rfl dX7_must_2 ?_
  refine ur_eq (y := 1) hf ?_
  refine lv_if_ne (tgt := 12) hx hb dX7_must_5 (by decide) (fun c_1 => ?_) (fun z => absurd z (by decide))
  refine lv_iconst (v := 1) hx hb dX7_must_12 (by decide) ?_
  refine lv_goto (tgt := 17) hx hb dX7_must_13 (by decide) ?_
  refine ur_puti C h 251 (by decide) (uc_251 E _) (Cn := RX7) (T := TX7) (N := 17) rfl hin7 tyX7 tyX7_ok nmX7 4 (by decide) (by decide +kernel) rfl (by rfl) rfl (Nat.le_of_ble_eq_true rfl) (us_251_4 E _ _) dX7_must_17 (fun M_2 H locs eM_2 h => ?_)
  refine lv_aload_n hx hb dX7_must_20 rfl (lv_at hl 0 rfl) ?_
  refine lv_dup hx hb dX7_must_21 rfl ?_
  refine ur_get C h 251 (by decide) (uc_251 E _) (Cn := RX7) (T := TX7) (N := 17) rfl hin7 3 (by decide) (by decide +kernel) rfl dX7_must_22 ?_
  refine ur_eq (y := nI p) (by rw [eM_2, u_set1, if_pos rfl, if_neg (by omega)]; exact hp) ?_
  refine lv_aload_n hx hb dX7_must_25 rfl (lv_at hl 0 rfl) ?_
  refine ur_get C h 251 (by decide) (uc_251 E _) (Cn := RX7) (T := TX7) (N := 17) rfl hin7 4 (by decide) (by decide +kernel) rfl dX7_must_26 ?_
  refine ur_eq (y := nI 1) (by rw [eM_2, u_set1, if_pos rfl, if_pos rfl]; try rfl) ?_
  refine ur_eq (y := 1) rfl ?_
  refine lv_if_eq (tgt := 36) hx hb dX7_must_29 (by decide) (fun z => absurd z (by decide)) (fun c_3 => ?_)
  refine lv_iconst (v := 0) hx hb dX7_must_32 (by decide) ?_
  refine lv_goto (tgt := 37) hx hb dX7_must_33 (by decide) ?_
  refine lv_iadd hx hb dX7_must_37 ?_
  refine ur_eq (y := nI (p)) (nI_add p 0) ?_
  refine ur_puti C h 251 (by decide) (uc_251 E _) (Cn := RX7) (T := TX7) (N := 17) rfl hin7 tyX7 tyX7_ok nmX7 3 (by decide) (by decide +kernel) rfl rfl rfl (Nat.le_of_ble_eq_true rfl) (us_251_3 E _ _) dX7_must_38 (fun M_4 H locs eM_4 h => ?_)
  exact ur_vret C h hr hlocks (by subst eM_2; subst eM_4; rw [u_set_self hf]; exact (u_set_self hp).symm) dX7_must_41
set_option maxHeartbeats 1000000 in
set_option maxRecDepth 100000 in
theorem k_X7_digit_n (l : Launch) (E : uE) (hI : uI E) (M : uM) (x1 x2 : Int32) (ty : Nat) (hty : M.1 251 2 = nI ty) (hty90 : ty ≤ 90) (p : Nat) (hp : M.1 251 3 = nI p) (hpt : p ≤ ty) (m : Nat) (hpm : tSk (M.1 253) ty p = tQ (M.1 253) ty m) (hf : M.1 251 4 = 0) : Met l yX7_digit wsX7_digit ({ frames := 1, cells := 0, slots := 0, locals := 25 }) (va_Pc [.ref (E.2.1 251), .int x1, .int x2] (uB E M)) (va_Qi (fun r u => if x1.toInt ≤ ((tS (M.1 253) ty (m)) - 48).toInt ∧ ((tS (M.1 253) ty (m)) - 48).toInt ≤ x2.toInt then (u = uSet M 251 3 (nI (tN (M.1 253) ty (m + 1))) ∧ r = ((tS (M.1 253) ty (m)) - 48)) else (u = uSet (uSet M 251 3 (nI (tQ (M.1 253) ty (m)))) 251 4 1 ∧ r = ((tS (M.1 253) ty (m)) - 48))) (uP E) (uA E)) 0 0 (uA E) := by
  have hin7 : ∀ w ∈ wsX70, w ∈ wsX7_digit := by decide +kernel
  refine u_start (cc := cX7_digit) (maxL := 4) (ret := (some .int)) hI (by decide) rfl (Nat.le_of_ble_eq_true rfl) ?_
  intro p_ e_ s_ m_ bl_ me_ c_ C hr hlocks h ls hl
  have hx := C.1.1
  have hb := C.1.2.1
  have hown : s_.vm.findClass RX7 = some m_.cls := C.1.2.2.2.1
  have hts := C.1.2.2.2.2
  have hl : lv_has ls 4 [(0, .ref (E.2.1 251)), (1, .int x1), (2, .int x2)] := hl
  refine lv_aload_n hx hb dX7_digit_0 rfl (lv_at hl 0 rfl) ?_
  refine ur_get C h 251 (by decide) (uc_251 E _) (Cn := RX7) (T := TX7) (N := 17) rfl hin7 4 (by decide) (by decide +kernel) rfl dX7_digit_1 ?_
  refine ur_eq (y := 0) hf ?_
  refine lv_if_eq (tgt := 11) hx hb dX7_digit_4 (by decide) (fun c_1 => ?_) (fun z => absurd z (by decide))
  refine lv_aload_n hx hb dX7_digit_11 rfl (lv_at hl 0 rfl) ?_
  refine ur_callVi C h (k := 251) (As := []) (rest := []) (k_X7_here l E hI M ty hty hty90 p hp hpt) (cwV 0 hts gX7_digit_X7_here rfl rfl rfl (by decide +kernel) ⟨Nat.le_of_ble_eq_true rfl, Nat.le_of_ble_eq_true rfl⟩) (by decide) (uc_251 E _) (T := TX7) (N := 17) rfl rfl hl.1 rfl (Nat.le_of_ble_eq_true rfl) dX7_digit_12 (fun r_2 M_3 H locs hw_3 h => ?_)
  obtain ⟨eM_3, er_2⟩ := hw_3
  rw [tAt_of hpm] at er_2
  rw [show tSk (M.1 253) ty p = (tQ (M.1 253) ty (m)) from hpm] at eM_3
  have hfM_3 : M_3.1 251 4 = 0 := by rw [eM_3, u_set1, if_pos rfl, if_neg (by decide)]; exact hf
  have hpM_3 : M_3.1 251 3 = nI (tQ (M.1 253) ty (m)) := by rw [eM_3]; rfl
  have h253M_3 : M_3.1 253 = M.1 253 := (show M_3.1 253 = M.1 253 from by rw [eM_3, u_set_far (by decide)]).trans (rfl : M.1 253 = M.1 253)
  have htyM_3 : M_3.1 251 2 = nI ty := by rw [eM_3, u_set1, if_pos rfl, if_neg (by decide)]; exact hty
  have hkM_3 : mFr M M_3 := by rw [eM_3]; exact mFr_f (by decide)
  have hKM_3 : mFr M M_3 := mFr_trans (mFr_refl M) hkM_3
  refine ur_eq (y := (tS (M.1 253) ty (m))) er_2 ?_
  refine lv_bipush (v := 48) hx hb dX7_digit_15 (by decide) ?_
  refine lv_isub hx hb dX7_digit_17 ?_
  refine lv_topi (fun v_4 ev_4 => ?_)
  refine lv_istore_n (lv' := [(3, .int v_4), (0, .ref (E.2.1 251)), (1, .int x1), (2, .int x2)]) hx hb dX7_digit_18 rfl hl (by decide) rfl (fun ls hl => ?_)
  refine lv_aload_n hx hb dX7_digit_19 rfl (lv_at hl 1 rfl) ?_
  refine lv_iload_n hx hb dX7_digit_20 rfl (lv_at hl 0 rfl) ?_
  refine lv_i2l (v := v_4.toInt64) hx hb dX7_digit_21 rfl ?_
  refine lv_iload_n hx hb dX7_digit_22 rfl (lv_at hl 2 rfl) ?_
  refine lv_i2l (v := x1.toInt64) hx hb dX7_digit_23 rfl ?_
  refine lv_iload_n hx hb dX7_digit_24 rfl (lv_at hl 3 rfl) ?_
  refine lv_i2l (v := x2.toInt64) hx hb dX7_digit_25 rfl ?_
  refine ur_callSi C h (As := [.long v_4.toInt64, .long x1.toInt64, .long x2.toInt64]) (rest := [.ref (E.2.1 251)]) (k_X7_in l E hI M_3 v_4.toInt64 x1.toInt64 x2.toInt64) (va_cwS 3 hts gX7_digit_X7_in rfl rfl rfl (by decide +kernel) ⟨Nat.le_of_ble_eq_true rfl, Nat.le_of_ble_eq_true rfl⟩) rfl hl.1 rfl (Nat.le_of_ble_eq_true rfl) dX7_digit_26 (fun r_5 M_6 H locs hw_6 h => ?_)
  obtain ⟨hu, er_5⟩ := hw_6
  subst hu
  have er_5 : r_5 = if x1.toInt ≤ v_4.toInt ∧ v_4.toInt ≤ x2.toInt then 1 else 0 := u_in (x := v_4.toInt) (u_w _) (u_w _) (u_w _) er_5
  rcases Decidable.em (x1.toInt ≤ v_4.toInt ∧ v_4.toInt ≤ x2.toInt) with c_7 | c_7
  · skip
    refine ur_eq (y := 1) (er_5.trans (if_pos c_7)) ?_
    refine ur_callVv C h (k := 251) (As := [.int 1]) (rest := []) (k_X7_must_t l E hI M_3 hfM_3 (tQ (M.1 253) ty (m)) hpM_3) (cwV 1 hts gX7_digit_X7_must rfl rfl rfl (by decide +kernel) ⟨Nat.le_of_ble_eq_true rfl, Nat.le_of_ble_eq_true rfl⟩) (by decide) (uc_251 E _) (T := TX7) (N := 17) rfl rfl hl.1 rfl (Nat.le_of_ble_eq_true rfl) dX7_digit_29 (fun M_9 H locs hw_9 h => ?_)
    have eM_9 := hw_9
    have hfM_9 : M_9.1 251 4 = 0 := by rw [eM_9, u_set1, if_pos rfl, if_neg (by decide)]; exact hfM_3
    have hpM_9 : M_9.1 251 3 = nI ((tQ (M.1 253) ty (m)) + 1) := by rw [eM_9]; rfl
    have hkM_9 : mFr M_3 M_9 := by rw [eM_9]; exact mFr_f (by decide)
    have hKM_9 : mFr M M_9 := mFr_trans hKM_3 hkM_9
    refine lv_iload_n hx hb dX7_digit_32 rfl (lv_at hl 0 rfl) ?_
    exact ur_iret C h hr hlocks (by subst ev_4; rw [if_pos c_7]; exact ⟨by rw [eM_9, eM_3, u_set_set]; rfl, rfl⟩) dX7_digit_33
  · skip
    refine ur_eq (y := 0) (er_5.trans (if_neg c_7)) ?_
    refine ur_callVv C h (k := 251) (As := [.int 0]) (rest := []) (k_X7_must_n l E hI M_3 hfM_3 (tQ (M.1 253) ty (m)) hpM_3) (cwV 1 hts gX7_digit_X7_must rfl rfl rfl (by decide +kernel) ⟨Nat.le_of_ble_eq_true rfl, Nat.le_of_ble_eq_true rfl⟩) (by decide) (uc_251 E _) (T := TX7) (N := 17) rfl rfl hl.1 rfl (Nat.le_of_ble_eq_true rfl) dX7_digit_29 (fun M_11 H locs hw_11 h => ?_)
    have eM_11 := hw_11
    have hfM_11 : M_11.1 251 4 = 1 := by rw [eM_11]; rfl
    have hpM_11 : M_11.1 251 3 = nI (tQ (M.1 253) ty (m)) := by rw [eM_11, u_set1, if_pos rfl, if_neg (by decide)]; exact hpM_3
    have hkM_11 : mFr M_3 M_11 := by rw [eM_11]; exact mFr_f (by decide)
    have hKM_11 : mFr M M_11 := mFr_trans hKM_3 hkM_11
    refine lv_iload_n hx hb dX7_digit_32 rfl (lv_at hl 0 rfl) ?_
    exact ur_iret C h hr hlocks (by subst ev_4; rw [if_neg c_7]; exact ⟨by rw [eM_11, eM_3], rfl⟩) dX7_digit_33
set_option maxHeartbeats 1000000 in
set_option maxRecDepth 100000 in
theorem k_X7_digit_f (l : Launch) (E : uE) (hI : uI E) (M : uM) (x1 x2 : Int32) (hf : M.1 251 4 = 1) (p : Nat) (hp : M.1 251 3 = nI p) : Met l yX7_digit wsX7_digit ({ frames := 1, cells := 0, slots := 0, locals := 25 }) (va_Pc [.ref (E.2.1 251), .int x1, .int x2] (uB E M)) (va_Qi (fun r u => M = u ∧ r = -1) (uP E) (uA E)) 0 0 (uA E) := by
  have hin7 : ∀ w ∈ wsX70, w ∈ wsX7_digit := by decide +kernel
  refine u_start (cc := cX7_digit) (maxL := 4) (ret := (some .int)) hI (by decide) rfl (Nat.le_of_ble_eq_true rfl) ?_
  intro p_ e_ s_ m_ bl_ me_ c_ C hr hlocks h ls hl
  have hx := C.1.1
  have hb := C.1.2.1
  have hown : s_.vm.findClass RX7 = some m_.cls := C.1.2.2.2.1
  have hts := C.1.2.2.2.2
  have hl : lv_has ls 4 [(0, .ref (E.2.1 251)), (1, .int x1), (2, .int x2)] := hl
  refine lv_aload_n hx hb dX7_digit_0 rfl (lv_at hl 0 rfl) ?_
  refine ur_get C h 251 (by decide) (uc_251 E _) (Cn := RX7) (T := TX7) (N := 17) rfl hin7 4 (by decide) (by decide +kernel) rfl dX7_digit_1 ?_
  refine ur_eq (y := 1) hf ?_
  refine lv_if_eq (tgt := 11) hx hb dX7_digit_4 (by decide) (fun z => absurd z (by decide)) (fun c_1 => ?_)
  refine lv_iconst (v := (-1)) hx hb dX7_digit_7 (by decide) ?_
  refine lv_goto (tgt := 18) hx hb dX7_digit_8 (by decide) ?_
  refine lv_istore_n (lv' := [(3, .int (-1 : Int32)), (0, .ref (E.2.1 251)), (1, .int x1), (2, .int x2)]) hx hb dX7_digit_18 rfl hl (by decide) rfl (fun ls hl => ?_)
  refine lv_aload_n hx hb dX7_digit_19 rfl (lv_at hl 1 rfl) ?_
  refine lv_iload_n hx hb dX7_digit_20 rfl (lv_at hl 0 rfl) ?_
  refine lv_i2l (v := (-1 : Int32).toInt64) hx hb dX7_digit_21 rfl ?_
  refine lv_iload_n hx hb dX7_digit_22 rfl (lv_at hl 2 rfl) ?_
  refine lv_i2l (v := x1.toInt64) hx hb dX7_digit_23 rfl ?_
  refine lv_iload_n hx hb dX7_digit_24 rfl (lv_at hl 3 rfl) ?_
  refine lv_i2l (v := x2.toInt64) hx hb dX7_digit_25 rfl ?_
  refine ur_callSi C h (As := [.long ((-1 : Int32).toInt64), .long x1.toInt64, .long x2.toInt64]) (rest := [.ref (E.2.1 251)]) (k_X7_in l E hI M ((-1 : Int32).toInt64) x1.toInt64 x2.toInt64) (va_cwS 3 hts gX7_digit_X7_in rfl rfl rfl (by decide +kernel) ⟨Nat.le_of_ble_eq_true rfl, Nat.le_of_ble_eq_true rfl⟩) rfl hl.1 rfl (Nat.le_of_ble_eq_true rfl) dX7_digit_26 (fun r_2 M_3 H locs hw_3 h => ?_)
  obtain ⟨hu, er_2⟩ := hw_3
  subst hu
  have er_2 : r_2 = if x1.toInt ≤ (-1 : Int32).toInt ∧ (-1 : Int32).toInt ≤ x2.toInt then 1 else 0 := u_in (x := (-1 : Int32).toInt) (u_w _) (u_w _) (u_w _) er_2
  refine ur_callVv C h (k := 251) (As := [.int r_2]) (rest := []) (k_X7_must_f l E hI M r_2 hf p hp) (cwV 1 hts gX7_digit_X7_must rfl rfl rfl (by decide +kernel) ⟨Nat.le_of_ble_eq_true rfl, Nat.le_of_ble_eq_true rfl⟩) (by decide) (uc_251 E _) (T := TX7) (N := 17) rfl rfl hl.1 rfl (Nat.le_of_ble_eq_true rfl) dX7_digit_29 (fun M_5 H locs hw_5 h => ?_)
  have hu := hw_5
  subst hu
  refine lv_iload_n hx hb dX7_digit_32 rfl (lv_at hl 0 rfl) ?_
  exact ur_iret C h hr hlocks (⟨rfl, rfl⟩) dX7_digit_33
