set_option maxHeartbeats 1000000 in
set_option maxRecDepth 100000 in
theorem k_X4_reaches (l : Launch) (E : uE) (hI : uI E) (M : uM) (q : Nat) (hq : uSh q) (x1 x2 : Int32) (hz : 0 ≤ (M.1 q 2).toInt ∧ (M.1 q 2).toInt ≤ 24) : Met l yX4_reaches wsX4_reaches ({ frames := 0, cells := 0, slots := 0, locals := 0 }) (va_Pc [.ref (E.2.1 q), .int x1, .int x2] (uB E M)) (va_Qi (fun r u => M = u ∧ r = if 0 ≤ x1.toInt ∧ 0 ≤ x2.toInt ∧ x1.toInt + x2.toInt ≤ (M.1 q 2).toInt then 1 else 0) (uP E) (uA E)) 0 0 (uA E) := by
  have hin4 : ∀ w ∈ wsX40, w ∈ wsX4_reaches := by decide +kernel
  refine u_start (cc := cX4_reaches) (maxL := 3) (ret := (some .boolean)) hI (by decide) rfl (Nat.le_of_ble_eq_true rfl) ?_
  intro p_ e_ s_ m_ bl_ me_ c_ C hr hlocks h ls hl
  have hx := C.1.1
  have hb := C.1.2.1
  have hown : s_.vm.findClass RX4 = some m_.cls := C.1.2.2.2.1
  have hts := C.1.2.2.2.2
  have hl : lv_has ls 3 [(0, .ref (E.2.1 q)), (1, .int x1), (2, .int x2)] := hl
  refine lv_iload_n hx hb dX4_reaches_0 rfl (lv_at hl 1 rfl) ?_
  refine lv_if_lt (tgt := 30) hx hb dX4_reaches_1 (by decide) (fun c_1 => ?_) (fun c_1 => ?_)
  · skip
    refine lv_iconst (v := 0) hx hb dX4_reaches_30 (by decide) ?_
    exact ur_zret C h hr (by rfl) hlocks (⟨rfl, (if_neg (by simp only [Int32.lt_iff_toInt_lt, Int32.le_iff_toInt_le] at c_1; have h00 : (0 : Int32).toInt = 0 := rfl; omega)).symm⟩) dX4_reaches_31
  · skip
    refine lv_iload_n hx hb dX4_reaches_4 rfl (lv_at hl 2 rfl) ?_
    refine lv_if_lt (tgt := 30) hx hb dX4_reaches_5 (by decide) (fun c_2 => ?_) (fun c_2 => ?_)
    · skip
      refine lv_iconst (v := 0) hx hb dX4_reaches_30 (by decide) ?_
      exact ur_zret C h hr (by rfl) hlocks (⟨rfl, (if_neg (by simp only [Int32.lt_iff_toInt_lt, Int32.le_iff_toInt_le] at c_1 c_2; have h00 : (0 : Int32).toInt = 0 := rfl; omega)).symm⟩) dX4_reaches_31
    · skip
      refine lv_iload_n hx hb dX4_reaches_8 rfl (lv_at hl 2 rfl) ?_
      refine lv_aload_n hx hb dX4_reaches_9 rfl (lv_at hl 0 rfl) ?_
      refine ur_get C h q (by have := uSh_lt hq; omega) (uc_s0 hq E _) (Cn := RX4) (T := TX4) (N := 4) rfl hin4 2 (by decide) (by decide +kernel) rfl dX4_reaches_10 ?_
      refine lv_icmp_gt (tgt := 30) hx hb dX4_reaches_13 (by decide) (fun c_3 => ?_) (fun c_3 => ?_)
      · skip
        refine lv_iconst (v := 0) hx hb dX4_reaches_30 (by decide) ?_
        exact ur_zret C h hr (by rfl) hlocks (⟨rfl, (if_neg (by simp only [Int32.lt_iff_toInt_lt, Int32.le_iff_toInt_le] at c_1 c_2 c_3; have h00 : (0 : Int32).toInt = 0 := rfl; omega)).symm⟩) dX4_reaches_31
      · skip
        refine lv_iload_n hx hb dX4_reaches_16 rfl (lv_at hl 1 rfl) ?_
        refine lv_aload_n hx hb dX4_reaches_17 rfl (lv_at hl 0 rfl) ?_
        refine ur_get C h q (by have := uSh_lt hq; omega) (uc_s0 hq E _) (Cn := RX4) (T := TX4) (N := 4) rfl hin4 2 (by decide) (by decide +kernel) rfl dX4_reaches_18 ?_
        refine lv_iload_n hx hb dX4_reaches_21 rfl (lv_at hl 2 rfl) ?_
        refine lv_isub hx hb dX4_reaches_22 ?_
        refine lv_icmp_gt (tgt := 30) hx hb dX4_reaches_23 (by decide) (fun c_4 => ?_) (fun c_4 => ?_)
        · skip
          refine lv_iconst (v := 0) hx hb dX4_reaches_30 (by decide) ?_
          exact ur_zret C h hr (by rfl) hlocks (⟨rfl, (if_neg (by simp only [Int32.lt_iff_toInt_lt, Int32.le_iff_toInt_le] at c_1 c_2 c_3 c_4; have h00 : (0 : Int32).toInt = 0 := rfl; have hsb : (M.1 q 2 - x2).toInt = (M.1 q 2).toInt - x2.toInt := u_subI (by omega) (by omega); omega)).symm⟩) dX4_reaches_31
        · skip
          refine lv_iconst (v := 1) hx hb dX4_reaches_26 (by decide) ?_
          refine lv_goto (tgt := 31) hx hb dX4_reaches_27 (by decide) ?_
          exact ur_zret C h hr (by rfl) hlocks (⟨rfl, (if_pos (by simp only [Int32.lt_iff_toInt_lt, Int32.le_iff_toInt_le] at c_1 c_2 c_3 c_4; have h00 : (0 : Int32).toInt = 0 := rfl; have hsb : (M.1 q 2 - x2).toInt = (M.1 q 2).toInt - x2.toInt := u_subI (by omega) (by omega); omega)).symm⟩) dX4_reaches_31
set_option maxHeartbeats 1000000 in
set_option maxRecDepth 100000 in
theorem k_X4_whyNotTaken (l : Launch) (E : uE) (hI : uI E) (M : uM) (q : Nat) (hq : uSh q) (x1 x2 x3 : Int32) (hz : 0 ≤ (M.1 q 2).toInt ∧ (M.1 q 2).toInt ≤ 24) : Met l yX4_whyNotTaken wsX4_whyNotTaken ({ frames := 1, cells := 0, slots := 0, locals := 22 }) (va_Pc [.ref (E.2.1 q), .int x1, .int x2, .int x3] (uB E M)) (va_Qi (fun r u => M = u ∧ r = xWhyS M q x1 x2 x3) (uP E) (uA E)) 0 0 (uA E) := by
  have hin4 : ∀ w ∈ wsX40, w ∈ wsX4_whyNotTaken := by decide +kernel
  refine u_start (cc := cX4_whyNotTaken) (maxL := 4) (ret := (some .int)) hI (by decide) rfl (Nat.le_of_ble_eq_true rfl) ?_
  intro p_ e_ s_ m_ bl_ me_ c_ C hr hlocks h ls hl
  have hx := C.1.1
  have hb := C.1.2.1
  have hown : s_.vm.findClass RX4 = some m_.cls := C.1.2.2.2.1
  have hts := C.1.2.2.2.2
  have hl : lv_has ls 4 [(0, .ref (E.2.1 q)), (1, .int x1), (2, .int x2), (3, .int x3)] := hl
  refine lv_aload_n hx hb dX4_whyNotTaken_0 rfl (lv_at hl 0 rfl) ?_
  refine ur_get C h q (by have := uSh_lt hq; omega) (uc_s0 hq E _) (Cn := RX4) (T := TX4) (N := 4) rfl hin4 0 (by decide) (by decide +kernel) rfl dX4_whyNotTaken_1 ?_
  refine lv_if_ne (tgt := 10) hx hb dX4_whyNotTaken_4 (by decide) (fun c_1 => ?_) (fun c_1 => ?_)
  · skip
    refine lv_aload_n hx hb dX4_whyNotTaken_10 rfl (lv_at hl 0 rfl) ?_
    refine ur_get C h q (by have := uSh_lt hq; omega) (uc_s0 hq E _) (Cn := RX4) (T := TX4) (N := 4) rfl hin4 1 (by decide) (by decide +kernel) rfl dX4_whyNotTaken_11 ?_
    refine lv_iload_n hx hb dX4_whyNotTaken_14 rfl (lv_at hl 1 rfl) ?_
    refine lv_icmp_eq (tgt := 21) hx hb dX4_whyNotTaken_15 (by decide) (fun c_2 => ?_) (fun c_2 => ?_)
    · skip
      refine lv_aload_n hx hb dX4_whyNotTaken_21 rfl (lv_at hl 0 rfl) ?_
      refine lv_iload_n hx hb dX4_whyNotTaken_22 rfl (lv_at hl 2 rfl) ?_
      refine lv_iload_n hx hb dX4_whyNotTaken_23 rfl (lv_at hl 3 rfl) ?_
      refine ur_callVi C h (k := q) (As := [.int x2, .int x3]) (rest := []) (k_X4_reaches l E hI M q hq x2 x3 hz) (cwV 2 hts gX4_whyNotTaken_X4_reaches rfl rfl rfl (by decide +kernel) ⟨Nat.le_of_ble_eq_true rfl, Nat.le_of_ble_eq_true rfl⟩) (by have := uSh_lt hq; omega) (uc_s0 hq E _) (T := TX4) (N := 4) rfl rfl hl.1 rfl (Nat.le_of_ble_eq_true rfl) dX4_whyNotTaken_24 (fun r_3 M_4 H locs hw_4 h => ?_)
      obtain ⟨hu, er_3⟩ := hw_4
      subst hu
      refine lv_if_eq (tgt := 34) hx hb dX4_whyNotTaken_27 (by decide) (fun c_5 => ?_) (fun c_5 => ?_)
      · skip
        have c_5 : ¬ (0 ≤ x2.toInt ∧ 0 ≤ x3.toInt ∧ x2.toInt + x3.toInt ≤ (M.1 q 2).toInt) := uz_f er_3 c_5
        refine lv_bipush (v := (-13)) hx hb dX4_whyNotTaken_34 (by decide) ?_
        exact ur_iret C h hr hlocks (⟨rfl, by unfold xWhyS; rw [if_neg c_1, if_pos c_2, if_neg c_5]⟩) dX4_whyNotTaken_36
      · skip
        have c_5 : 0 ≤ x2.toInt ∧ 0 ≤ x3.toInt ∧ x2.toInt + x3.toInt ≤ (M.1 q 2).toInt := uz_t er_3 c_5
        refine lv_iconst (v := 0) hx hb dX4_whyNotTaken_30 (by decide) ?_
        refine lv_goto (tgt := 36) hx hb dX4_whyNotTaken_31 (by decide) ?_
        exact ur_iret C h hr hlocks (⟨rfl, by unfold xWhyS; rw [if_neg c_1, if_pos c_2, if_pos c_5]⟩) dX4_whyNotTaken_36
    · skip
      refine lv_bipush (v := (-12)) hx hb dX4_whyNotTaken_18 (by decide) ?_
      exact ur_iret C h hr hlocks (⟨rfl, by unfold xWhyS; rw [if_neg c_1, if_neg c_2]⟩) dX4_whyNotTaken_20
  · skip
    refine lv_bipush (v := (-11)) hx hb dX4_whyNotTaken_7 (by decide) ?_
    exact ur_iret C h hr hlocks (⟨rfl, by unfold xWhyS; rw [if_pos c_1]⟩) dX4_whyNotTaken_9
set_option maxHeartbeats 1000000 in
set_option maxRecDepth 100000 in
theorem k_X4_put (l : Launch) (E : uE) (hI : uI E) (M : uM) (q : Nat) (hq : uSh q) (i : Nat) (v : Int64) (hi : i < 24) : Met l yX4_put wsX4_put ({ frames := 0, cells := 0, slots := 0, locals := 0 }) (va_Pc [.ref (E.2.1 q), .int (nI i), .long v] (uB E M)) (va_Qv (fun u => u = uSetL M (q + 1) i (uCut (M.1 q 1) v)) (uP E) (uA E)) 0 0 (uA E) := by
  have hin4 : ∀ w ∈ wsX40, w ∈ wsX4_put := by decide +kernel
  refine u_start (cc := cX4_put) (maxL := 4) (ret := none) hI (by decide) rfl (Nat.le_of_ble_eq_true rfl) ?_
  intro p_ e_ s_ m_ bl_ me_ c_ C hr hlocks h ls hl
  have hx := C.1.1
  have hb := C.1.2.1
  have hown : s_.vm.findClass RX4 = some m_.cls := C.1.2.2.2.1
  have hts := C.1.2.2.2.2
  have hl : lv_has ls 4 [(0, .ref (E.2.1 q)), (1, .int (nI i)), (2, .long v)] := hl
  refine lv_aload_n hx hb dX4_put_0 rfl (lv_at hl 0 rfl) ?_
  refine ur_get C h q (by have := uSh_lt hq; omega) (uc_s0 hq E _) (Cn := RX4) (T := TX4) (N := 4) rfl hin4 1 (by decide) (by decide +kernel) rfl dX4_put_1 ?_
  rcases Decidable.em (M.1 q 1 = 0) with c_1 | c_1
  · skip
    refine lv_tableIn (off := 28) (tgt := 32) hx hb dX4_put_4 (by rw [c_1]; decide) (by rw [c_1]; decide) (by rw [c_1]; rfl) (by decide) ?_
    refine lv_aload_n hx hb dX4_put_32 rfl (lv_at hl 0 rfl) ?_
    refine ur_get C h q (by have := uSh_lt hq; omega) (uc_s0 hq E _) (Cn := RX4) (T := TX4) (N := 4) rfl hin4 3 (by decide) (by decide +kernel) rfl dX4_put_33 ?_
    refine lv_iload_n hx hb dX4_put_36 rfl (lv_at hl 1 rfl) ?_
    refine lv_lload_n hx hb dX4_put_37 rfl (lv_at hl 2 rfl) ?_
    refine lv_l2i (v := v.toInt32) hx hb dX4_put_38 rfl ?_
    refine lv_i2b (v := v.toInt32.toInt8.toInt32) hx hb dX4_put_39 rfl ?_
    refine lv_i2l (v := v.toInt32.toInt8.toInt32.toInt64) hx hb dX4_put_40 rfl ?_
    refine ur_last C h (q + 1) (by have := uSh_lt hq; omega) (uc_s1 hq E) (i) (by omega) (by decide) dX4_put_41 (fun M_2 H locs eM_2 h => ?_)
    refine lv_goto (tgt := 77) hx hb dX4_put_42 (by decide) ?_
    exact ur_vret C h hr hlocks (by subst eM_2; unfold uCut; rw [if_pos c_1]) dX4_put_77
  rcases Decidable.em (M.1 q 1 = 1) with c_3 | c_3
  · skip
    refine lv_tableIn (off := 41) (tgt := 45) hx hb dX4_put_4 (by rw [c_3]; decide) (by rw [c_3]; decide) (by rw [c_3]; rfl) (by decide) ?_
    refine lv_aload_n hx hb dX4_put_45 rfl (lv_at hl 0 rfl) ?_
    refine ur_get C h q (by have := uSh_lt hq; omega) (uc_s0 hq E _) (Cn := RX4) (T := TX4) (N := 4) rfl hin4 3 (by decide) (by decide +kernel) rfl dX4_put_46 ?_
    refine lv_iload_n hx hb dX4_put_49 rfl (lv_at hl 1 rfl) ?_
    refine lv_lload_n hx hb dX4_put_50 rfl (lv_at hl 2 rfl) ?_
    refine lv_l2i (v := v.toInt32) hx hb dX4_put_51 rfl ?_
    refine lv_i2s (v := v.toInt32.toInt16.toInt32) hx hb dX4_put_52 rfl ?_
    refine lv_i2l (v := v.toInt32.toInt16.toInt32.toInt64) hx hb dX4_put_53 rfl ?_
    refine ur_last C h (q + 1) (by have := uSh_lt hq; omega) (uc_s1 hq E) (i) (by omega) (by decide) dX4_put_54 (fun M_4 H locs eM_4 h => ?_)
    refine lv_goto (tgt := 77) hx hb dX4_put_55 (by decide) ?_
    exact ur_vret C h hr hlocks (by subst eM_4; unfold uCut; rw [if_neg c_1]; rw [if_pos c_3]) dX4_put_77
  rcases Decidable.em (M.1 q 1 = 2) with c_5 | c_5
  · skip
    refine lv_tableIn (off := 54) (tgt := 58) hx hb dX4_put_4 (by rw [c_5]; decide) (by rw [c_5]; decide) (by rw [c_5]; rfl) (by decide) ?_
    refine lv_aload_n hx hb dX4_put_58 rfl (lv_at hl 0 rfl) ?_
    refine ur_get C h q (by have := uSh_lt hq; omega) (uc_s0 hq E _) (Cn := RX4) (T := TX4) (N := 4) rfl hin4 3 (by decide) (by decide +kernel) rfl dX4_put_59 ?_
    refine lv_iload_n hx hb dX4_put_62 rfl (lv_at hl 1 rfl) ?_
    refine lv_lload_n hx hb dX4_put_63 rfl (lv_at hl 2 rfl) ?_
    refine lv_l2i (v := v.toInt32) hx hb dX4_put_64 rfl ?_
    refine lv_i2l (v := v.toInt32.toInt64) hx hb dX4_put_65 rfl ?_
    refine ur_last C h (q + 1) (by have := uSh_lt hq; omega) (uc_s1 hq E) (i) (by omega) (by decide) dX4_put_66 (fun M_6 H locs eM_6 h => ?_)
    refine lv_goto (tgt := 77) hx hb dX4_put_67 (by decide) ?_
    exact ur_vret C h hr hlocks (by subst eM_6; unfold uCut; rw [if_neg c_1]; rw [if_neg c_3]; rw [if_pos c_5]) dX4_put_77
  have hsw_7 : (M.1 q 1).toInt < 0 ∨ 2 < (M.1 q 1).toInt := uo_sw 0 2 (fun k hk1 hk2 => by
      have hk : k = 0 ∨ k = 1 ∨ k = 2 := by omega
      rcases hk with rfl | rfl | rfl
      · exact lv_neT c_1 (by decide)
      · exact lv_neT c_3 (by decide)
      · exact lv_neT c_5 (by decide))
  refine lv_tableOut (tgt := 70) hx hb dX4_put_4 hsw_7 (by decide) ?_
  refine lv_aload_n hx hb dX4_put_70 rfl (lv_at hl 0 rfl) ?_
  refine ur_get C h q (by have := uSh_lt hq; omega) (uc_s0 hq E _) (Cn := RX4) (T := TX4) (N := 4) rfl hin4 3 (by decide) (by decide +kernel) rfl dX4_put_71 ?_
  refine lv_iload_n hx hb dX4_put_74 rfl (lv_at hl 1 rfl) ?_
  refine lv_lload_n hx hb dX4_put_75 rfl (lv_at hl 2 rfl) ?_
  refine ur_last C h (q + 1) (by have := uSh_lt hq; omega) (uc_s1 hq E) (i) (by omega) (by decide) dX4_put_76 (fun M_8 H locs eM_8 h => ?_)
  exact ur_vret C h hr hlocks (by subst eM_8; unfold uCut; rw [if_neg c_1]; rw [if_neg c_3]; rw [if_neg c_5]) dX4_put_77
set_option maxHeartbeats 1000000 in
set_option maxRecDepth 100000 in
theorem k_X4_begin (l : Launch) (E : uE) (hI : uI E) (M : uM) (q : Nat) (hq : uSh q) (x1 x2 : Int32) : Met l yX4_begin wsX4_begin ({ frames := 0, cells := 0, slots := 0, locals := 0 }) (va_Pc [.ref (E.2.1 q), .int x1, .int x2] (uB E M)) (va_Qv (fun u => u = xBegin M q x1 x2) (uP E) (uA E)) 0 0 (uA E) := by
  have hin4 : ∀ w ∈ wsX40, w ∈ wsX4_begin := by decide +kernel
  refine u_start (cc := cX4_begin) (maxL := 4) (ret := none) hI (by decide) rfl (Nat.le_of_ble_eq_true rfl) ?_
  intro p_ e_ s_ m_ bl_ me_ c_ C hr hlocks h ls hl
  have hx := C.1.1
  have hb := C.1.2.1
  have hown : s_.vm.findClass RX4 = some m_.cls := C.1.2.2.2.1
  have hts := C.1.2.2.2.2
  have hl : lv_has ls 4 [(0, .ref (E.2.1 q)), (1, .int x1), (2, .int x2)] := hl
  refine lv_aload_n hx hb dX4_begin_0 rfl (lv_at hl 0 rfl) ?_
  refine lv_iconst (v := 1) hx hb dX4_begin_1 (by decide) ?_
  refine ur_puti C h q (by have := uSh_lt hq; omega) (uc_s0 hq E _) (Cn := RX4) (T := TX4) (N := 4) rfl hin4 tyX4 tyX4_ok nmX4 0 (by decide) (by decide +kernel) rfl (by rfl) rfl (Nat.le_of_ble_eq_true rfl) (us_s0_0 hq E _ _) dX4_begin_2 (fun M_1 H locs eM_1 h => ?_)
  refine lv_aload_n hx hb dX4_begin_5 rfl (lv_at hl 0 rfl) ?_
  refine lv_iload_n hx hb dX4_begin_6 rfl (lv_at hl 1 rfl) ?_
  refine ur_puti C h q (by have := uSh_lt hq; omega) (uc_s0 hq E _) (Cn := RX4) (T := TX4) (N := 4) rfl hin4 tyX4 tyX4_ok nmX4 1 (by decide) (by decide +kernel) rfl rfl rfl (Nat.le_of_ble_eq_true rfl) (us_s0_1 hq E _ _) dX4_begin_7 (fun M_2 H locs eM_2 h => ?_)
  refine lv_aload_n hx hb dX4_begin_10 rfl (lv_at hl 0 rfl) ?_
  refine lv_iload_n hx hb dX4_begin_11 rfl (lv_at hl 2 rfl) ?_
  refine ur_puti C h q (by have := uSh_lt hq; omega) (uc_s0 hq E _) (Cn := RX4) (T := TX4) (N := 4) rfl hin4 tyX4 tyX4_ok nmX4 2 (by decide) (by decide +kernel) rfl rfl rfl (Nat.le_of_ble_eq_true rfl) (us_s0_2 hq E _ _) dX4_begin_12 (fun M_3 H locs eM_3 h => ?_)
  refine lv_iconst (v := 0) hx hb dX4_begin_15 (by decide) ?_
  refine lv_istore_n (lv' := [(3, .int 0), (0, .ref (E.2.1 q)), (1, .int x1), (2, .int x2)]) hx hb dX4_begin_16 rfl hl (by decide) rfl (fun ls hl => ?_)
  have lp17 : ∀ (n17 : Nat) (i : Nat) (Mi : uM), 24 - i < n17 → (i ≤ 24) → (Mi = uFillL (uSet (uSet (uSet M q 0 1) q 1 x1) q 2 x2) (q + 1) 0 0 i) → ∀ (H : Heap) (locs : List Loc) (ls : Array Slot), uH E Mi s_ H locs → lv_has ls 4 [(3, .int (nI i)), (0, .ref (E.2.1 q)), (1, .int x1), (2, .int x2)] → W p_ l e_ ({ frames := 0, cells := 0, slots := 0, locals := 0 }) s_ m_ (List.toArray [.ref (E.2.1 q), .int x1, .int x2]) bl_ me_ c_ H locs 0 0 (MQ bl_ (va_Qv (fun u => u = xBegin M q x1 x2) (uP E) (uA E)) (List.toArray [.ref (E.2.1 q), .int x1, .int x2]) s_ 0 0 (uA E)) (F0 m_ 17 ls []) := by
    intro n17
    induction n17 with
    | zero => intro i Mi hms; exact absurd hms (Nat.not_lt_zero _)
    | succ n17 ih17 =>
      intro i Mi hms17 hi hMi H locs ls h hl
      refine lv_iload_n hx hb dX4_begin_17 rfl (lv_at hl 0 rfl) ?_
      refine lv_bipush (v := 24) hx hb dX4_begin_18 (by decide) ?_
      refine lv_icmp_ge (tgt := 36) hx hb dX4_begin_20 (by decide) (fun c_4 => ?_) (fun c_4 => ?_)
      · skip
        have c_4 : 24 ≤ i := (nI_leI (a := 24) (b := i) (by omega) (by omega)).mp c_4
        exact ur_vret C h hr hlocks (by rw [hMi, show i = 24 by omega]; rfl) dX4_begin_36
      · skip
        have c_4 : ¬ 24 ≤ i := fun z => c_4 ((nI_leI (a := 24) (b := i) (by omega) (by omega)).mpr z)
        refine lv_aload_n hx hb dX4_begin_23 rfl (lv_at hl 1 rfl) ?_
        refine ur_get C h q (by have := uSh_lt hq; omega) (uc_s0 hq E _) (Cn := RX4) (T := TX4) (N := 4) rfl hin4 3 (by decide) (by decide +kernel) rfl dX4_begin_24 ?_
        refine lv_iload_n hx hb dX4_begin_27 rfl (lv_at hl 0 rfl) ?_
        refine lv_lconst (v := 0) hx hb dX4_begin_28 (by decide) ?_
        refine ur_last C h (q + 1) (by have := uSh_lt hq; omega) (uc_s1 hq E) (i) (by omega) (by decide) dX4_begin_29 (fun M_5 H locs eM_5 h => ?_)
        refine lv_iinc (v := nI (i + 1)) (lv' := [(3, .int (nI (i + 1))), (0, .ref (E.2.1 q)), (1, .int x1), (2, .int x2)]) hx hb dX4_begin_30 hl (k := 0) rfl (nI_add i 1) (by decide) rfl (fun ls hl => ?_)
        refine lv_goto (tgt := 17) hx hb dX4_begin_33 (by decide) ?_
        exact ih17  (i + 1) M_5 (by omega) (by omega) (by rw [eM_5, hMi, uFillL, Nat.zero_add]) _ _ _ h (lv_sub hl [0, 1, 2, 3] rfl)
  exact lp17 _ 0 M_3 (Nat.lt_succ_self _) (by omega) (by subst eM_1; subst eM_2; subst eM_3; rfl) _ _ _ h (lv_sub hl [0, 1, 2, 3] rfl)
set_option maxHeartbeats 1000000 in
set_option maxRecDepth 100000 in
theorem k_X6_areTold (l : Launch) (E : uE) (hI : uI E) (M : uM) (q : Nat) (hq : uSh q) (a kn : Nat) (hak : a + 2 * kn ≤ 24) (nw : Nat) (hnw : M.1 1 4 = nI nw) (hnw6 : nw ≤ 6) : Met l yX6_areTold wsX6_areTold ({ frames := 0, cells := 0, slots := 0, locals := 0 }) (va_Pc [.ref (E.2.1 0), .ref (E.2.1 q), .int (nI a), .int (nI kn)] (uB E M)) (va_Qi (fun r u => M = u ∧ r = if uAll (xTold nw (M.2.1 (q + 1)) a) true kn = true then 1 else 0) (uP E) (uA E)) 0 0 (uA E) := by
  have hin1 : ∀ w ∈ wsX10, w ∈ wsX6_areTold := by decide +kernel
  have hin4 : ∀ w ∈ wsX40, w ∈ wsX6_areTold := by decide +kernel
  have hin6 : ∀ w ∈ wsX60, w ∈ wsX6_areTold := by decide +kernel
  refine u_start (cc := cX6_areTold) (maxL := 9) (ret := (some .boolean)) hI (by decide) rfl (Nat.le_of_ble_eq_true rfl) ?_
  intro p_ e_ s_ m_ bl_ me_ c_ C hr hlocks h ls hl
  have hx := C.1.1
  have hb := C.1.2.1
  have hown : s_.vm.findClass RX6 = some m_.cls := C.1.2.2.2.1
  have hts := C.1.2.2.2.2
  have hl : lv_has ls 9 [(0, .ref (E.2.1 0)), (1, .ref (E.2.1 q)), (2, .int (nI a)), (3, .int (nI kn))] := hl
  refine lv_iload_n hx hb dX6_areTold_0 rfl (lv_at hl 2 rfl) ?_
  refine lv_istore (lv' := [(4, .int (nI a)), (0, .ref (E.2.1 0)), (1, .ref (E.2.1 q)), (2, .int (nI a)), (3, .int (nI kn))]) hx hb dX6_areTold_1 hl (by decide) rfl (fun ls hl => ?_)
  have lp3 : ∀ (n3 : Nat) (i : Nat), kn - i < n3 → (i ≤ kn) → (uAll (xTold nw (M.2.1 (q + 1)) a) true i = true) → ∀ (H : Heap) (locs : List Loc) (ls : Array Slot), uH E M s_ H locs → lv_has ls 9 [(4, .int (nI (a + 2 * i))), (0, .ref (E.2.1 0)), (1, .ref (E.2.1 q)), (2, .int (nI a)), (3, .int (nI kn))] → W p_ l e_ ({ frames := 0, cells := 0, slots := 0, locals := 0 }) s_ m_ (List.toArray [.ref (E.2.1 0), .ref (E.2.1 q), .int (nI a), .int (nI kn)]) bl_ me_ c_ H locs 0 0 (MQ bl_ (va_Qi (fun r u => M = u ∧ r = if uAll (xTold nw (M.2.1 (q + 1)) a) true kn = true then 1 else 0) (uP E) (uA E)) (List.toArray [.ref (E.2.1 0), .ref (E.2.1 q), .int (nI a), .int (nI kn)]) s_ 0 0 (uA E)) (F0 m_ 3 ls []) := by
    intro n3
    induction n3 with
    | zero => intro i hms; exact absurd hms (Nat.not_lt_zero _)
    | succ n3 ih3 =>
      intro i hms3 hi hto H locs ls h hl
      refine lv_iload hx hb dX6_areTold_3 (lv_at hl 0 rfl) ?_
      refine lv_iload_n hx hb dX6_areTold_5 rfl (lv_at hl 3 rfl) ?_
      refine lv_iconst (v := 2) hx hb dX6_areTold_6 (by decide) ?_
      refine lv_iload_n hx hb dX6_areTold_7 rfl (lv_at hl 4 rfl) ?_
      refine lv_imul hx hb dX6_areTold_8 ?_
      refine ur_eq (y := nI (2 * kn)) (pk_mul 2 kn) ?_
      refine lv_iadd hx hb dX6_areTold_9 ?_
      refine ur_eq (y := nI (a + 2 * kn)) (nI_add a (2 * kn)) ?_
      refine lv_icmp_ge (tgt := 76) hx hb dX6_areTold_10 (by decide) (fun c_1 => ?_) (fun c_1 => ?_)
      · skip
        have c_1 : (a + 2 * kn) ≤ (a + 2 * i) := (nI_leI (a := (a + 2 * kn)) (b := (a + 2 * i)) (by omega) (by omega)).mp c_1
        refine lv_iconst (v := 1) hx hb dX6_areTold_76 (by decide) ?_
        exact ur_zret C h hr (by rfl) hlocks (⟨rfl, (if_pos (by rw [← show i = kn by omega]; exact hto)).symm⟩) dX6_areTold_77
      · skip
        have c_1 : ¬ (a + 2 * kn) ≤ (a + 2 * i) := fun z => c_1 ((nI_leI (a := (a + 2 * kn)) (b := (a + 2 * i)) (by omega) (by omega)).mpr z)
        refine lv_aload_n hx hb dX6_areTold_13 rfl (lv_at hl 2 rfl) ?_
        refine ur_get C h q (by have := uSh_lt hq; omega) (uc_s0 hq E _) (Cn := RX4) (T := TX4) (N := 4) rfl hin4 3 (by decide) (by decide +kernel) rfl dX6_areTold_14 ?_
        refine lv_iload hx hb dX6_areTold_17 (lv_at hl 0 rfl) ?_
        refine ur_lald C h (q + 1) (by have := uSh_lt hq; omega) (uc_s1 hq E _) (a + 2 * i) (by omega) (by decide) dX6_areTold_19 ?_
        refine lv_topl (fun v_2 ev_2 => ?_)
        refine lv_lstore (lv' := [(5, .long v_2), (4, .int (nI (a + 2 * i))), (0, .ref (E.2.1 0)), (1, .ref (E.2.1 q)), (2, .int (nI a)), (3, .int (nI kn))]) hx hb dX6_areTold_20 hl (by decide) rfl (fun ls hl => ?_)
        refine lv_aload_n hx hb dX6_areTold_22 rfl (lv_at hl 3 rfl) ?_
        refine ur_get C h q (by have := uSh_lt hq; omega) (uc_s0 hq E _) (Cn := RX4) (T := TX4) (N := 4) rfl hin4 3 (by decide) (by decide +kernel) rfl dX6_areTold_23 ?_
        refine lv_iload hx hb dX6_areTold_26 (lv_at hl 1 rfl) ?_
        refine lv_iconst (v := 1) hx hb dX6_areTold_28 (by decide) ?_
        refine lv_iadd hx hb dX6_areTold_29 ?_
        refine ur_eq (y := nI (a + 2 * i + 1)) (nI_add (a + 2 * i) 1) ?_
        refine ur_lald C h (q + 1) (by have := uSh_lt hq; omega) (uc_s1 hq E _) (a + 2 * i + 1) (by omega) (by decide) dX6_areTold_30 ?_
        refine lv_topl (fun v_3 ev_3 => ?_)
        refine lv_lstore (lv' := [(7, .long v_3), (5, .long v_2), (4, .int (nI (a + 2 * i))), (0, .ref (E.2.1 0)), (1, .ref (E.2.1 q)), (2, .int (nI a)), (3, .int (nI kn))]) hx hb dX6_areTold_31 hl (by decide) rfl (fun ls hl => ?_)
        refine lv_lload hx hb dX6_areTold_33 (lv_at hl 1 rfl) ?_
        refine lv_lconst (v := 0) hx hb dX6_areTold_35 (by decide) ?_
        refine W.lcmp hx hb dX6_areTold_36 ?_
        refine lv_if_lt (tgt := 68) hx hb dX6_areTold_37 (by decide) (fun c_4 => ?_) (fun c_4 => ?_)
        · skip
          have c_4 : v_2 < 0 := (ul_lt v_2 0).mp c_4
          refine lv_iconst (v := 0) hx hb dX6_areTold_68 (by decide) ?_
          exact ur_zret C h hr (by rfl) hlocks (⟨rfl, by subst ev_2; subst ev_3; exact (if_neg (fun z => by have z1 := of_decide_eq_true (uAll_t z i (by omega)); first | exact z1.1 c_4 | exact z1.2.1 c_4 | exact z1.2.2.1 c_4 | exact c_4 z1.2.2.2)).symm⟩) dX6_areTold_69
        · skip
          have c_4 : ¬ v_2 < 0 := fun z => c_4 ((ul_lt v_2 0).mpr z)
          refine lv_lload hx hb dX6_areTold_40 (lv_at hl 1 rfl) ?_
          refine lv_aload_n hx hb dX6_areTold_42 rfl (lv_at hl 3 rfl) ?_
          refine ur_get C h 0 (by decide) (uc_0 E _) (Cn := RX6) (T := TX6) (N := 6) rfl hin6 0 (by decide) (by decide +kernel) rfl dX6_areTold_43 ?_
          refine ur_get C h 1 (by decide) (uc_1 E _) (Cn := RX1) (T := TX1) (N := 11) rfl hin1 4 (by decide) (by decide +kernel) rfl dX6_areTold_46 ?_
          refine ur_eq (y := nI nw) (hnw) ?_
          refine lv_i2l (v := (nI nw).toInt64) hx hb dX6_areTold_49 rfl ?_
          refine W.lcmp hx hb dX6_areTold_50 ?_
          refine lv_if_ge (tgt := 68) hx hb dX6_areTold_51 (by decide) (fun c_5 => ?_) (fun c_5 => ?_)
          · skip
            have c_5 : ((nI nw).toInt64) ≤ v_2 := (ul_ge v_2 ((nI nw).toInt64)).mp c_5
            refine lv_iconst (v := 0) hx hb dX6_areTold_68 (by decide) ?_
            exact ur_zret C h hr (by rfl) hlocks (⟨rfl, by subst ev_2; subst ev_3; exact (if_neg (fun z => by have z1 := of_decide_eq_true (uAll_t z i (by omega)); first | exact z1.1 c_5 | exact z1.2.1 c_5 | exact z1.2.2.1 c_5 | exact c_5 z1.2.2.2)).symm⟩) dX6_areTold_69
          · skip
            have c_5 : ¬ ((nI nw).toInt64) ≤ v_2 := fun z => c_5 ((ul_ge v_2 ((nI nw).toInt64)).mpr z)
            refine lv_lload hx hb dX6_areTold_54 (lv_at hl 0 rfl) ?_
            refine lv_lconst (v := 0) hx hb dX6_areTold_56 (by decide) ?_
            refine W.lcmp hx hb dX6_areTold_57 ?_
            refine lv_if_lt (tgt := 68) hx hb dX6_areTold_58 (by decide) (fun c_6 => ?_) (fun c_6 => ?_)
            · skip
              have c_6 : v_3 < 0 := (ul_lt v_3 0).mp c_6
              refine lv_iconst (v := 0) hx hb dX6_areTold_68 (by decide) ?_
              exact ur_zret C h hr (by rfl) hlocks (⟨rfl, by subst ev_2; subst ev_3; exact (if_neg (fun z => by have z1 := of_decide_eq_true (uAll_t z i (by omega)); first | exact z1.1 c_6 | exact z1.2.1 c_6 | exact z1.2.2.1 c_6 | exact c_6 z1.2.2.2)).symm⟩) dX6_areTold_69
            · skip
              have c_6 : ¬ v_3 < 0 := fun z => c_6 ((ul_lt v_3 0).mpr z)
              refine lv_lload hx hb dX6_areTold_61 (lv_at hl 0 rfl) ?_
              refine lv_lconst (v := 1) hx hb dX6_areTold_63 (by decide) ?_
              refine W.lcmp hx hb dX6_areTold_64 ?_
              refine lv_if_le (tgt := 70) hx hb dX6_areTold_65 (by decide) (fun c_7 => ?_) (fun c_7 => ?_)
              · skip
                have c_7 : v_3 ≤ 1 := (ul_le v_3 1).mp c_7
                refine lv_iinc (v := nI (a + 2 * (i + 1))) (lv' := [(4, .int (nI (a + 2 * (i + 1)))), (7, .long v_3), (5, .long v_2), (0, .ref (E.2.1 0)), (1, .ref (E.2.1 q)), (2, .int (nI a)), (3, .int (nI kn))]) hx hb dX6_areTold_70 hl (k := 2) rfl ((nI_add (a + 2 * i) 2).trans (congrArg nI (by omega))) (by decide) rfl (fun ls hl => ?_)
                refine lv_goto (tgt := 3) hx hb dX6_areTold_73 (by decide) ?_
                exact ih3  (i + 1) (by omega) (by omega) (by subst ev_2; subst ev_3; rw [uAll, hto, Bool.true_and]; exact decide_eq_true ⟨c_4, c_5, c_6, c_7⟩) _ _ _ h (lv_sub hl [0, 3, 4, 5, 6] rfl)
              · skip
                have c_7 : ¬ v_3 ≤ 1 := fun z => c_7 ((ul_le v_3 1).mpr z)
                refine lv_iconst (v := 0) hx hb dX6_areTold_68 (by decide) ?_
                exact ur_zret C h hr (by rfl) hlocks (⟨rfl, by subst ev_2; subst ev_3; exact (if_neg (fun z => by have z1 := of_decide_eq_true (uAll_t z i (by omega)); first | exact z1.1 c_7 | exact z1.2.1 c_7 | exact z1.2.2.1 c_7 | exact c_7 z1.2.2.2)).symm⟩) dX6_areTold_69
  exact lp3 _ 0 (Nat.lt_succ_self _) (by omega) rfl _ _ _ h (lv_sub hl [0, 1, 2, 3, 4] rfl)
set_option maxHeartbeats 1000000 in
set_option maxRecDepth 100000 in
theorem k_X2_fillPasses (l : Launch) (E : uE) (hI : uI E) (M : uM) (n : Nat) (hn : M.1 1 0 = nI n) (hn6 : n ≤ 6) (nw : Nat) (hnw : M.1 1 4 = nI nw) (hnw6 : nw ≤ 6) (ht : ¬ M.1 1 7 = 0) : Met l yX2_fillPasses wsX2_fillPasses ({ frames := 6, cells := 0, slots := 0, locals := 142 }) (va_Pc [.ref (E.2.1 235)] (uB E M)) (va_Qv (fun u => ∃ rr, u = uRow M 238 rr ∧ xPasses M n nw rr) (uP E) (uA E)) 0 0 (uA E) := by
  have hin1 : ∀ w ∈ wsX10, w ∈ wsX2_fillPasses := by decide +kernel
  have hin2 : ∀ w ∈ wsX20, w ∈ wsX2_fillPasses := by decide +kernel
  refine u_start (cc := cX2_fillPasses) (maxL := 3) (ret := none) hI (by decide) rfl (Nat.le_of_ble_eq_true rfl) ?_
  intro p_ e_ s_ m_ bl_ me_ c_ C hr hlocks h ls hl
  have hx := C.1.1
  have hb := C.1.2.1
  have hown : s_.vm.findClass RX2 = some m_.cls := C.1.2.2.2.1
  have hts := C.1.2.2.2.2
  have hl : lv_has ls 3 [(0, .ref (E.2.1 235))] := hl
  refine lv_iconst (v := 0) hx hb dX2_fillPasses_0 (by decide) ?_
  refine lv_istore_n (lv' := [(1, .int 0), (0, .ref (E.2.1 235))]) hx hb dX2_fillPasses_1 rfl hl (by decide) rfl (fun ls hl => ?_)
  have lp2 : ∀ (n2 : Nat) (i : Nat) (Mi : uM) (rr : Nat → Int32), n - i < n2 → (i ≤ n) → (Mi = uRow M 238 rr) → (∀ t s, t < i → s < nw → rr (t * 6 + s) = xPassIn M t s (M.1 7 4)) → ∀ (H : Heap) (locs : List Loc) (ls : Array Slot), uH E Mi s_ H locs → lv_has ls 3 [(1, .int (nI i)), (0, .ref (E.2.1 235))] → W p_ l e_ ({ frames := 6, cells := 0, slots := 0, locals := 142 }) s_ m_ (List.toArray [.ref (E.2.1 235)]) bl_ me_ c_ H locs 0 0 (MQ bl_ (va_Qv (fun u => ∃ rr, u = uRow M 238 rr ∧ xPasses M n nw rr) (uP E) (uA E)) (List.toArray [.ref (E.2.1 235)]) s_ 0 0 (uA E)) (F0 m_ 2 ls []) := by
    intro n2
    induction n2 with
    | zero => intro i Mi rr hms; exact absurd hms (Nat.not_lt_zero _)
    | succ n2 ih2 =>
      intro i Mi rr hms2 hi hMi hrr H locs ls h hl
      refine lv_iload_n hx hb dX2_fillPasses_2 rfl (lv_at hl 0 rfl) ?_
      refine lv_aload_n hx hb dX2_fillPasses_3 rfl (lv_at hl 1 rfl) ?_
      refine ur_get C h 235 (by decide) (uc_235 E _) (Cn := RX2) (T := TX2) (N := 5) rfl hin2 0 (by decide) (by decide +kernel) rfl dX2_fillPasses_4 ?_
      refine ur_get C h 1 (by decide) (uc_1 E _) (Cn := RX1) (T := TX1) (N := 11) rfl hin1 0 (by decide) (by decide +kernel) rfl dX2_fillPasses_7 ?_
      refine ur_eq (y := nI n) ((by rw [hMi]; exact hn)) ?_
      refine lv_icmp_ge (tgt := 58) hx hb dX2_fillPasses_10 (by decide) (fun c_1 => ?_) (fun c_1 => ?_)
      · skip
        have c_1 : n ≤ i := (nI_leI (a := n) (b := i) (by omega) (by omega)).mp c_1
        exact ur_vret C h hr hlocks (⟨rr, hMi, fun t s h1 h2 => hrr t s (by omega) h2⟩) dX2_fillPasses_58
      · skip
        have c_1 : ¬ n ≤ i := fun z => c_1 ((nI_leI (a := n) (b := i) (by omega) (by omega)).mpr z)
        refine lv_iconst (v := 0) hx hb dX2_fillPasses_13 (by decide) ?_
        refine lv_istore_n (lv' := [(2, .int 0), (1, .int (nI i)), (0, .ref (E.2.1 235))]) hx hb dX2_fillPasses_14 rfl hl (by decide) rfl (fun ls hl => ?_)
        have lp15 : ∀ (n15 : Nat) (j : Nat) (Mj : uM) (rj : Nat → Int32), nw - j < n15 → (j ≤ nw) → (Mj = uRow M 238 rj) → (∀ t s, (t < i ∨ (t = i ∧ s < j)) → s < nw → rj (t * 6 + s) = xPassIn M t s (M.1 7 4)) → ∀ (H : Heap) (locs : List Loc) (ls : Array Slot), uH E Mj s_ H locs → lv_has ls 3 [(2, .int (nI j)), (1, .int (nI i)), (0, .ref (E.2.1 235))] → W p_ l e_ ({ frames := 6, cells := 0, slots := 0, locals := 142 }) s_ m_ (List.toArray [.ref (E.2.1 235)]) bl_ me_ c_ H locs 0 0 (MQ bl_ (va_Qv (fun u => ∃ rr, u = uRow M 238 rr ∧ xPasses M n nw rr) (uP E) (uA E)) (List.toArray [.ref (E.2.1 235)]) s_ 0 0 (uA E)) (F0 m_ 15 ls []) := by
          intro n15
          induction n15 with
          | zero => intro j Mj rj hms; exact absurd hms (Nat.not_lt_zero _)
          | succ n15 ih15 =>
            intro j Mj rj hms15 hj hMj hrj H locs ls h hl
            refine lv_iload_n hx hb dX2_fillPasses_15 rfl (lv_at hl 0 rfl) ?_
            refine lv_aload_n hx hb dX2_fillPasses_16 rfl (lv_at hl 2 rfl) ?_
            refine ur_get C h 235 (by decide) (uc_235 E _) (Cn := RX2) (T := TX2) (N := 5) rfl hin2 0 (by decide) (by decide +kernel) rfl dX2_fillPasses_17 ?_
            refine ur_get C h 1 (by decide) (uc_1 E _) (Cn := RX1) (T := TX1) (N := 11) rfl hin1 4 (by decide) (by decide +kernel) rfl dX2_fillPasses_20 ?_
            refine ur_eq (y := nI nw) ((by rw [hMj]; exact hnw)) ?_
            refine lv_icmp_ge (tgt := 52) hx hb dX2_fillPasses_23 (by decide) (fun c_2 => ?_) (fun c_2 => ?_)
            · skip
              have c_2 : nw ≤ j := (nI_leI (a := nw) (b := j) (by omega) (by omega)).mp c_2
              refine lv_iinc (v := nI (i + 1)) (lv' := [(1, .int (nI (i + 1))), (2, .int (nI j)), (0, .ref (E.2.1 235))]) hx hb dX2_fillPasses_52 hl (k := 1) rfl (nI_add i 1) (by decide) rfl (fun ls hl => ?_)
              refine lv_goto (tgt := 2) hx hb dX2_fillPasses_55 (by decide) ?_
              exact ih2  (i + 1) Mj rj (by omega) (by omega) hMj (fun t s h1 h2 => hrj t s (by omega) h2) _ _ _ h (lv_sub hl [0, 2] rfl)
            · skip
              have c_2 : ¬ nw ≤ j := fun z => c_2 ((nI_leI (a := nw) (b := j) (by omega) (by omega)).mpr z)
              refine lv_aload_n hx hb dX2_fillPasses_26 rfl (lv_at hl 2 rfl) ?_
              refine ur_get C h 235 (by decide) (uc_235 E _) (Cn := RX2) (T := TX2) (N := 5) rfl hin2 3 (by decide) (by decide +kernel) rfl dX2_fillPasses_27 ?_
              refine lv_iload_n hx hb dX2_fillPasses_30 rfl (lv_at hl 1 rfl) ?_
              refine lv_bipush (v := 6) hx hb dX2_fillPasses_31 (by decide) ?_
              refine lv_imul hx hb dX2_fillPasses_33 ?_
              refine ur_eq (y := nI (i * 6)) (pk_mul i 6) ?_
              refine lv_iload_n hx hb dX2_fillPasses_34 rfl (lv_at hl 0 rfl) ?_
              refine lv_iadd hx hb dX2_fillPasses_35 ?_
              refine ur_eq (y := nI (i * 6 + j)) (nI_add (i * 6) j) ?_
              refine lv_aload_n hx hb dX2_fillPasses_36 rfl (lv_at hl 2 rfl) ?_
              refine ur_get C h 235 (by decide) (uc_235 E _) (Cn := RX2) (T := TX2) (N := 5) rfl hin2 0 (by decide) (by decide +kernel) rfl dX2_fillPasses_37 ?_
              refine lv_iload_n hx hb dX2_fillPasses_40 rfl (lv_at hl 1 rfl) ?_
              refine lv_iload_n hx hb dX2_fillPasses_41 rfl (lv_at hl 0 rfl) ?_
              refine ur_callVi C h (k := 1) (As := [.int (nI i), .int (nI j)]) (rest := [.int (nI (i * 6 + j)), .ref (E.2.1 238)]) (k_X1_passNow l E hI Mj i j (by omega) (by omega) (by rw [hMj]; exact ht)) (cwV 2 hts gX2_fillPasses_X1_passNow rfl rfl rfl (by decide +kernel) ⟨Nat.le_of_ble_eq_true rfl, Nat.le_of_ble_eq_true rfl⟩) (by decide) (uc_1 E _) (T := TX1) (N := 11) rfl rfl hl.1 rfl (Nat.le_of_ble_eq_true rfl) dX2_fillPasses_42 (fun r_3 M_4 H locs hw_4 h => ?_)
              obtain ⟨hu, er_3⟩ := hw_4
              subst hu
              refine ur_eq (y := xPassIn Mj i j (Mj.1 7 4)) er_3 ?_
              refine ur_iast C h 238 (by decide) (uc_238 E) (i * 6 + j) (by omega) (by decide) dX2_fillPasses_45 (fun M_5 H locs eM_5 h => ?_)
              refine lv_iinc (v := nI (j + 1)) (lv' := [(2, .int (nI (j + 1))), (1, .int (nI i)), (0, .ref (E.2.1 235))]) hx hb dX2_fillPasses_46 hl (k := 0) rfl (nI_add j 1) (by decide) rfl (fun ls hl => ?_)
              refine lv_goto (tgt := 15) hx hb dX2_fillPasses_49 (by decide) ?_
              exact ih15  (j + 1) M_5 (upd rj (i * 6 + j) (xPassIn M i j (M.1 7 4))) (by omega) (by omega) (by subst hMi; subst hMj; subst eM_5; rw [u_set_row]; rfl) (fun t s h1 h2 => by rw [u_upd]; by_cases e9 : t * 6 + s = i * 6 + j; (rw [if_pos e9, show t = i by omega, show s = j by omega]); (rw [if_neg e9]; exact hrj t s (by omega) h2)) _ _ _ h (lv_sub hl [0, 1, 2] rfl)
        exact lp15 _ 0 Mi rr (Nat.lt_succ_self _) (by omega) hMi (fun t s h1 h2 => hrr t s (by omega) h2) _ _ _ h (lv_sub hl [0, 1, 2] rfl)
  exact lp2 _ 0 M (M.1 238) (Nat.lt_succ_self _) (by omega) (u_row_self M 238).symm (fun t s h _ => absurd h (Nat.not_lt_zero t)) _ _ _ h (lv_sub hl [0, 1] rfl)
set_option maxHeartbeats 1000000 in
set_option maxRecDepth 100000 in
theorem k_X2_passByAll (l : Launch) (E : uE) (hI : uI E) (M : uM) (p s : Nat) (hp : p < 6) (hs : s < 64) (nw : Nat) (hnw : M.1 1 4 = nI nw) (hnw6 : nw ≤ 6) : Met l yX2_passByAll wsX2_passByAll ({ frames := 1, cells := 0, slots := 0, locals := 21 }) (va_Pc [.ref (E.2.1 235), .int (nI p), .int (nI s)] (uB E M)) (va_Ql (fun r u => M = u ∧ r = uPA (fun w => M.1 238 (p * 6 + w)) (nI s) nw) (uP E) (uA E)) 0 0 (uA E) := by
  have hin1 : ∀ w ∈ wsX10, w ∈ wsX2_passByAll := by decide +kernel
  have hin2 : ∀ w ∈ wsX20, w ∈ wsX2_passByAll := by decide +kernel
  refine u_start (cc := cX2_passByAll) (maxL := 6) (ret := (some .long)) hI (by decide) rfl (Nat.le_of_ble_eq_true rfl) ?_
  intro p_ e_ s_ m_ bl_ me_ c_ C hr hlocks h ls hl
  have hx := C.1.1
  have hb := C.1.2.1
  have hown : s_.vm.findClass RX2 = some m_.cls := C.1.2.2.2.1
  have hts := C.1.2.2.2.2
  have hl : lv_has ls 6 [(0, .ref (E.2.1 235)), (1, .int (nI p)), (2, .int (nI s))] := hl
  refine lv_ldc2 (v := 1000000) hx hb hown (hts (.constantLong RX2 126 1000000) (by decide +kernel)) dX2_passByAll_0 ?_
  refine lv_lstore_n (lv' := [(3, .long 1000000), (0, .ref (E.2.1 235)), (1, .int (nI p)), (2, .int (nI s))]) hx hb dX2_passByAll_3 rfl hl (by decide) rfl (fun ls hl => ?_)
  refine lv_iconst (v := 0) hx hb dX2_passByAll_4 (by decide) ?_
  refine lv_istore (lv' := [(5, .int 0), (3, .long 1000000), (0, .ref (E.2.1 235)), (1, .int (nI p)), (2, .int (nI s))]) hx hb dX2_passByAll_5 hl (by decide) rfl (fun ls hl => ?_)
  have lp7 : ∀ (n7 : Nat) (i : Nat) (v : Int64), nw - i < n7 → (i ≤ nw) → (v = uPA (fun w => M.1 238 (p * 6 + w)) (nI s) i) → ∀ (H : Heap) (locs : List Loc) (ls : Array Slot), uH E M s_ H locs → lv_has ls 6 [(5, .int (nI i)), (3, .long v), (0, .ref (E.2.1 235)), (1, .int (nI p)), (2, .int (nI s))] → W p_ l e_ ({ frames := 1, cells := 0, slots := 0, locals := 21 }) s_ m_ (List.toArray [.ref (E.2.1 235), .int (nI p), .int (nI s)]) bl_ me_ c_ H locs 0 0 (MQ bl_ (va_Ql (fun r u => M = u ∧ r = uPA (fun w => M.1 238 (p * 6 + w)) (nI s) nw) (uP E) (uA E)) (List.toArray [.ref (E.2.1 235), .int (nI p), .int (nI s)]) s_ 0 0 (uA E)) (F0 m_ 7 ls []) := by
    intro n7
    induction n7 with
    | zero => intro i v hms; exact absurd hms (Nat.not_lt_zero _)
    | succ n7 ih7 =>
      intro i v hms7 hi hv H locs ls h hl
      refine lv_iload hx hb dX2_passByAll_7 (lv_at hl 0 rfl) ?_
      refine lv_aload_n hx hb dX2_passByAll_9 rfl (lv_at hl 2 rfl) ?_
      refine ur_get C h 235 (by decide) (uc_235 E _) (Cn := RX2) (T := TX2) (N := 5) rfl hin2 0 (by decide) (by decide +kernel) rfl dX2_passByAll_10 ?_
      refine ur_get C h 1 (by decide) (uc_1 E _) (Cn := RX1) (T := TX1) (N := 11) rfl hin1 4 (by decide) (by decide +kernel) rfl dX2_passByAll_13 ?_
      refine ur_eq (y := nI nw) (hnw) ?_
      refine lv_icmp_ge (tgt := 54) hx hb dX2_passByAll_16 (by decide) (fun c_1 => ?_) (fun c_1 => ?_)
      · skip
        have c_1 : nw ≤ i := (nI_leI (a := nw) (b := i) (by omega) (by omega)).mp c_1
        refine lv_lload_n hx hb dX2_passByAll_54 rfl (lv_at hl 1 rfl) ?_
        exact ur_lret C h hr hlocks (⟨rfl, by rw [hv, show i = nw by omega]⟩) dX2_passByAll_55
      · skip
        have c_1 : ¬ nw ≤ i := fun z => c_1 ((nI_leI (a := nw) (b := i) (by omega) (by omega)).mpr z)
        refine lv_iload_n hx hb dX2_passByAll_19 rfl (lv_at hl 4 rfl) ?_
        refine lv_iload hx hb dX2_passByAll_20 (lv_at hl 0 rfl) ?_
        refine ur_callNi C h (As := [.int (nI s), .int (nI i)]) (rest := []) (k_X6_has l E hI M (nI s) i) (⟨va_cnB 2 hts gX2_passByAll_X6_has_n101 rfl rfl rfl C.2.2.1.2 (hts (.initialized RX6) (by decide +kernel)) (by decide +kernel) ⟨Nat.le_of_ble_eq_true rfl, Nat.le_of_ble_eq_true rfl⟩, hts (.static yX6_has) (by decide +kernel), trivial⟩) rfl hl.1 rfl (Nat.le_of_ble_eq_true rfl) dX2_passByAll_22 (fun r_2 M_3 H locs hw_3 h => ?_)
        obtain ⟨hu, er_2⟩ := hw_3
        subst hu
        refine lv_if_eq (tgt := 48) hx hb dX2_passByAll_25 (by decide) (fun c_4 => ?_) (fun c_4 => ?_)
        · skip
          have c_4 : ¬ (ubit (nI s) i = true) := uz_f er_2 c_4
          refine lv_iinc (v := nI (i + 1)) (lv' := [(5, .int (nI (i + 1))), (3, .long v), (0, .ref (E.2.1 235)), (1, .int (nI p)), (2, .int (nI s))]) hx hb dX2_passByAll_48 hl (k := 0) rfl (nI_add i 1) (by decide) rfl (fun ls hl => ?_)
          refine lv_goto (tgt := 7) hx hb dX2_passByAll_51 (by decide) ?_
          exact ih7  (i + 1) v (by omega) (by omega) (by first | rfl | (simp [uPA, hv, c_1, c_4]; done)) _ _ _ h (lv_sub hl [0, 1, 2, 3, 4] rfl)
        · skip
          have c_4 : ubit (nI s) i = true := uz_t er_2 c_4
          refine lv_lload_n hx hb dX2_passByAll_28 rfl (lv_at hl 1 rfl) ?_
          refine lv_aload_n hx hb dX2_passByAll_29 rfl (lv_at hl 2 rfl) ?_
          refine ur_get C h 235 (by decide) (uc_235 E _) (Cn := RX2) (T := TX2) (N := 5) rfl hin2 3 (by decide) (by decide +kernel) rfl dX2_passByAll_30 ?_
          refine lv_iload_n hx hb dX2_passByAll_33 rfl (lv_at hl 3 rfl) ?_
          refine lv_bipush (v := 6) hx hb dX2_passByAll_34 (by decide) ?_
          refine lv_imul hx hb dX2_passByAll_36 ?_
          refine ur_eq (y := nI (p * 6)) (pk_mul p 6) ?_
          refine lv_iload hx hb dX2_passByAll_37 (lv_at hl 0 rfl) ?_
          refine lv_iadd hx hb dX2_passByAll_39 ?_
          refine ur_eq (y := nI (p * 6 + i)) (nI_add (p * 6) i) ?_
          refine ur_iald C h 238 (by decide) (uc_238 E _) (p * 6 + i) (by omega) (by decide) dX2_passByAll_40 ?_
          refine lv_i2l (v := (M.1 238 (p * 6 + i)).toInt64) hx hb dX2_passByAll_41 rfl ?_
          refine lv_lmul hx hb dX2_passByAll_42 ?_
          refine lv_ldc2 (v := 1000000) hx hb hown (hts (.constantLong RX2 126 1000000) (by decide +kernel)) dX2_passByAll_43 ?_
          refine lv_ldiv hx hb dX2_passByAll_46 (by decide) ?_
          refine lv_topl (fun v_5 ev_5 => ?_)
          refine lv_lstore_n (lv' := [(3, .long v_5), (5, .int (nI i)), (0, .ref (E.2.1 235)), (1, .int (nI p)), (2, .int (nI s))]) hx hb dX2_passByAll_47 rfl hl (by decide) rfl (fun ls hl => ?_)
          refine lv_iinc (v := nI (i + 1)) (lv' := [(5, .int (nI (i + 1))), (3, .long v_5), (0, .ref (E.2.1 235)), (1, .int (nI p)), (2, .int (nI s))]) hx hb dX2_passByAll_48 hl (k := 1) rfl (nI_add i 1) (by decide) rfl (fun ls hl => ?_)
          refine lv_goto (tgt := 7) hx hb dX2_passByAll_51 (by decide) ?_
          exact ih7  (i + 1) v_5 (by omega) (by omega) (by first | rfl | (subst ev_5; simp [uPA, hv, c_1, c_4]; done)) _ _ _ h (lv_sub hl [0, 1, 2, 3, 4] rfl)
  exact lp7 _ 0 1000000 (Nat.lt_succ_self _) (by omega) (by first | rfl | (simp [uPA, hv, ]; done)) _ _ _ h (lv_sub hl [0, 1, 2, 3, 4] rfl)
set_option maxHeartbeats 1000000 in
set_option maxRecDepth 100000 in
theorem k_X2_isProof (l : Launch) (E : uE) (hI : uI E) (M : uM) (s : Nat) (x2 : Int32) (hs : s < 64) (n : Nat) (hn : M.1 1 0 = nI n) (hn6 : n ≤ 6) (nw : Nat) (hnw : M.1 1 4 = nI nw) (hnw6 : nw ≤ 6) : Met l yX2_isProof wsX2_isProof ({ frames := 2, cells := 0, slots := 0, locals := 46 }) (va_Pc [.ref (E.2.1 235), .int (nI s), .int x2] (uB E M)) (va_Qi (fun r u => M = u ∧ r = if uAll (xPOk M (M.1 238) nw x2 s) true n = true then 1 else 0) (uP E) (uA E)) 0 0 (uA E) := by
  have hin1 : ∀ w ∈ wsX10, w ∈ wsX2_isProof := by decide +kernel
  have hin2 : ∀ w ∈ wsX20, w ∈ wsX2_isProof := by decide +kernel
  refine u_start (cc := cX2_isProof) (maxL := 6) (ret := (some .boolean)) hI (by decide) rfl (Nat.le_of_ble_eq_true rfl) ?_
  intro p_ e_ s_ m_ bl_ me_ c_ C hr hlocks h ls hl
  have hx := C.1.1
  have hb := C.1.2.1
  have hown : s_.vm.findClass RX2 = some m_.cls := C.1.2.2.2.1
  have hts := C.1.2.2.2.2
  have hl : lv_has ls 6 [(0, .ref (E.2.1 235)), (1, .int (nI s)), (2, .int x2)] := hl
  refine lv_iconst (v := 0) hx hb dX2_isProof_0 (by decide) ?_
  refine lv_istore_n (lv' := [(3, .int 0), (0, .ref (E.2.1 235)), (1, .int (nI s)), (2, .int x2)]) hx hb dX2_isProof_1 rfl hl (by decide) rfl (fun ls hl => ?_)
  have lp2 : ∀ (n2 : Nat) (i : Nat), n - i < n2 → (i ≤ n) → (uAll (xPOk M (M.1 238) nw x2 s) true i = true) → ∀ (H : Heap) (locs : List Loc) (ls : Array Slot), uH E M s_ H locs → lv_has ls 6 [(3, .int (nI i)), (0, .ref (E.2.1 235)), (1, .int (nI s)), (2, .int x2)] → W p_ l e_ ({ frames := 2, cells := 0, slots := 0, locals := 46 }) s_ m_ (List.toArray [.ref (E.2.1 235), .int (nI s), .int x2]) bl_ me_ c_ H locs 0 0 (MQ bl_ (va_Qi (fun r u => M = u ∧ r = if uAll (xPOk M (M.1 238) nw x2 s) true n = true then 1 else 0) (uP E) (uA E)) (List.toArray [.ref (E.2.1 235), .int (nI s), .int x2]) s_ 0 0 (uA E)) (F0 m_ 2 ls []) := by
    intro n2
    induction n2 with
    | zero => intro i hms; exact absurd hms (Nat.not_lt_zero _)
    | succ n2 ih2 =>
      intro i hms2 hi hto H locs ls h hl
      refine lv_iload_n hx hb dX2_isProof_2 rfl (lv_at hl 0 rfl) ?_
      refine lv_aload_n hx hb dX2_isProof_3 rfl (lv_at hl 1 rfl) ?_
      refine ur_get C h 235 (by decide) (uc_235 E _) (Cn := RX2) (T := TX2) (N := 5) rfl hin2 0 (by decide) (by decide +kernel) rfl dX2_isProof_4 ?_
      refine ur_get C h 1 (by decide) (uc_1 E _) (Cn := RX1) (T := TX1) (N := 11) rfl hin1 0 (by decide) (by decide +kernel) rfl dX2_isProof_7 ?_
      refine ur_eq (y := nI n) (hn) ?_
      refine lv_icmp_ge (tgt := 63) hx hb dX2_isProof_10 (by decide) (fun c_1 => ?_) (fun c_1 => ?_)
      · skip
        have c_1 : n ≤ i := (nI_leI (a := n) (b := i) (by omega) (by omega)).mp c_1
        refine lv_iconst (v := 1) hx hb dX2_isProof_63 (by decide) ?_
        exact ur_zret C h hr (by rfl) hlocks (⟨rfl, (if_pos (by rw [← show i = n by omega]; exact hto)).symm⟩) dX2_isProof_64
      · skip
        have c_1 : ¬ n ≤ i := fun z => c_1 ((nI_leI (a := n) (b := i) (by omega) (by omega)).mpr z)
        refine lv_aload_n hx hb dX2_isProof_13 rfl (lv_at hl 1 rfl) ?_
        refine lv_iload_n hx hb dX2_isProof_14 rfl (lv_at hl 0 rfl) ?_
        refine lv_iload_n hx hb dX2_isProof_15 rfl (lv_at hl 2 rfl) ?_
        refine ur_callVl C h (k := 235) (As := [.int (nI i), .int (nI s)]) (rest := []) (k_X2_passByAll l E hI M i s (by omega) (by omega) nw (hnw) hnw6) (cwV 2 hts gX2_isProof_X2_passByAll rfl rfl rfl (by decide +kernel) ⟨Nat.le_of_ble_eq_true rfl, Nat.le_of_ble_eq_true rfl⟩) (by decide) (uc_235 E _) (T := TX2) (N := 5) rfl rfl hl.1 rfl (Nat.le_of_ble_eq_true rfl) dX2_isProof_16 (fun r_2 M_3 H locs hw_3 h => ?_)
        obtain ⟨hu, er_2⟩ := hw_3
        subst hu
        refine ur_eql (y := uPA (fun w => M.1 238 (i * 6 + w)) (nI s) nw) er_2 ?_
        refine lv_topl (fun v_4 ev_4 => ?_)
        refine lv_lstore (lv' := [(4, .long v_4), (3, .int (nI i)), (0, .ref (E.2.1 235)), (1, .int (nI s)), (2, .int x2)]) hx hb dX2_isProof_19 hl (by decide) rfl (fun ls hl => ?_)
        refine lv_aload_n hx hb dX2_isProof_21 rfl (lv_at hl 2 rfl) ?_
        refine ur_get C h 235 (by decide) (uc_235 E _) (Cn := RX2) (T := TX2) (N := 5) rfl hin2 0 (by decide) (by decide +kernel) rfl dX2_isProof_22 ?_
        refine ur_get C h 1 (by decide) (uc_1 E _) (Cn := RX1) (T := TX1) (N := 11) rfl hin1 2 (by decide) (by decide +kernel) rfl dX2_isProof_25 ?_
        refine lv_iload_n hx hb dX2_isProof_28 rfl (lv_at hl 1 rfl) ?_
        refine ur_iald C h 3 (by decide) (uc_3 E _) (i) (by omega) (by decide) dX2_isProof_29 ?_
        refine lv_if_ne (tgt := 44) hx hb dX2_isProof_30 (by decide) (fun c_5 => ?_) (fun c_5 => ?_)
        · skip
          refine lv_lload hx hb dX2_isProof_44 (lv_at hl 0 rfl) ?_
          refine lv_ldc (v := 1000000) hx hb hown (hts (.constant RX2 34 1000000) (by decide +kernel)) dX2_isProof_46 ?_
          refine lv_iload_n hx hb dX2_isProof_48 rfl (lv_at hl 4 rfl) ?_
          refine lv_isub hx hb dX2_isProof_49 ?_
          refine lv_i2l (v := (1000000 - x2).toInt64) hx hb dX2_isProof_50 rfl ?_
          refine W.lcmp hx hb dX2_isProof_51 ?_
          refine lv_if_le (tgt := 57) hx hb dX2_isProof_52 (by decide) (fun c_6 => ?_) (fun c_6 => ?_)
          · skip
            have c_6 : v_4 ≤ ((1000000 - x2).toInt64) := (ul_le v_4 ((1000000 - x2).toInt64)).mp c_6
            refine lv_iinc (v := nI (i + 1)) (lv' := [(3, .int (nI (i + 1))), (4, .long v_4), (0, .ref (E.2.1 235)), (1, .int (nI s)), (2, .int x2)]) hx hb dX2_isProof_57 hl (k := 1) rfl (nI_add i 1) (by decide) rfl (fun ls hl => ?_)
            refine lv_goto (tgt := 2) hx hb dX2_isProof_60 (by decide) ?_
            exact ih2  (i + 1) (by omega) (by omega) (by subst ev_4; rw [uAll, hto, Bool.true_and, xPOk, if_neg c_5, decide_eq_false (Int64.not_lt.mpr c_6)]; rfl) _ _ _ h (lv_sub hl [0, 2, 3, 4] rfl)
          · skip
            have c_6 : ¬ v_4 ≤ ((1000000 - x2).toInt64) := fun z => c_6 ((ul_le v_4 ((1000000 - x2).toInt64)).mpr z)
            refine lv_iconst (v := 0) hx hb dX2_isProof_55 (by decide) ?_
            exact ur_zret C h hr (by rfl) hlocks (⟨rfl, by subst ev_4; exact (if_neg (by rw [uAll_n (i := i) (by rw [xPOk, if_neg c_5, decide_eq_true (Int64.not_le.mp c_6)]; rfl) (by omega)]; decide)).symm⟩) dX2_isProof_56
        · skip
          refine lv_lload hx hb dX2_isProof_33 (lv_at hl 0 rfl) ?_
          refine lv_iload_n hx hb dX2_isProof_35 rfl (lv_at hl 4 rfl) ?_
          refine lv_i2l (v := x2.toInt64) hx hb dX2_isProof_36 rfl ?_
          refine W.lcmp hx hb dX2_isProof_37 ?_
          refine lv_if_ge (tgt := 57) hx hb dX2_isProof_38 (by decide) (fun c_7 => ?_) (fun c_7 => ?_)
          · skip
            have c_7 : x2.toInt64 ≤ v_4 := (ul_ge v_4 x2.toInt64).mp c_7
            refine lv_iinc (v := nI (i + 1)) (lv' := [(3, .int (nI (i + 1))), (4, .long v_4), (0, .ref (E.2.1 235)), (1, .int (nI s)), (2, .int x2)]) hx hb dX2_isProof_57 hl (k := 1) rfl (nI_add i 1) (by decide) rfl (fun ls hl => ?_)
            refine lv_goto (tgt := 2) hx hb dX2_isProof_60 (by decide) ?_
            exact ih2  (i + 1) (by omega) (by omega) (by subst ev_4; rw [uAll, hto, Bool.true_and, xPOk, if_pos c_5, decide_eq_false (Int64.not_lt.mpr c_7)]; rfl) _ _ _ h (lv_sub hl [0, 2, 3, 4] rfl)
          · skip
            have c_7 : ¬ x2.toInt64 ≤ v_4 := fun z => c_7 ((ul_ge v_4 x2.toInt64).mpr z)
            refine lv_goto (tgt := 55) hx hb dX2_isProof_41 (by decide) ?_
            refine lv_iconst (v := 0) hx hb dX2_isProof_55 (by decide) ?_
            exact ur_zret C h hr (by rfl) hlocks (⟨rfl, by subst ev_4; exact (if_neg (by rw [uAll_n (i := i) (by rw [xPOk, if_pos c_5, decide_eq_true (Int64.not_le.mp c_7)]; rfl) (by omega)]; decide)).symm⟩) dX2_isProof_56
  exact lp2 _ 0 (Nat.lt_succ_self _) (by omega) rfl _ _ _ h (lv_sub hl [0, 1, 2, 3] rfl)
set_option maxHeartbeats 1000000 in
set_option maxRecDepth 100000 in
theorem k_X2_wordsOfProof (l : Launch) (E : uE) (hI : uI E) (M : uM) (x1 : Int32) (n : Nat) (hn : M.1 1 0 = nI n) (hn6 : n ≤ 6) (nw : Nat) (hnw : M.1 1 4 = nI nw) (hnw6 : nw ≤ 6) (ht : ¬ M.1 1 7 = 0) : Met l yX2_wordsOfProof wsX2_wordsOfProof ({ frames := 7, cells := 0, slots := 0, locals := 164 }) (va_Pc [.ref (E.2.1 235), .int x1] (uB E M)) (va_Qi (fun r u => ∃ rr, u = uRow M 238 rr ∧ xPasses M n nw rr ∧ xFew (fun s => uAll (xPOk M rr nw x1 s) true n) (2 ^ nw) r) (uP E) (uA E)) 0 0 (uA E) := by
  have hin1 : ∀ w ∈ wsX10, w ∈ wsX2_wordsOfProof := by decide +kernel
  have hin2 : ∀ w ∈ wsX20, w ∈ wsX2_wordsOfProof := by decide +kernel
  refine u_start (cc := cX2_wordsOfProof) (maxL := 4) (ret := (some .int)) hI (by decide) rfl (Nat.le_of_ble_eq_true rfl) ?_
  intro p_ e_ s_ m_ bl_ me_ c_ C hr hlocks h ls hl
  have hx := C.1.1
  have hb := C.1.2.1
  have hown : s_.vm.findClass RX2 = some m_.cls := C.1.2.2.2.1
  have hts := C.1.2.2.2.2
  have hl : lv_has ls 4 [(0, .ref (E.2.1 235)), (1, .int x1)] := hl
  refine lv_aload_n hx hb dX2_wordsOfProof_0 rfl (lv_at hl 0 rfl) ?_
  refine ur_callVv C h (k := 235) (As := []) (rest := []) (k_X2_fillPasses l E hI M n hn hn6 nw hnw hnw6 ht) (cwV 0 hts gX2_wordsOfProof_X2_fillPasses rfl rfl rfl (by decide +kernel) ⟨Nat.le_of_ble_eq_true rfl, Nat.le_of_ble_eq_true rfl⟩) (by decide) (uc_235 E _) (T := TX2) (N := 5) rfl rfl hl.1 rfl (Nat.le_of_ble_eq_true rfl) dX2_wordsOfProof_1 (fun M_2 H locs hw_2 h => ?_)
  obtain ⟨rr, eM_2, hrr⟩ := hw_2
  refine lv_iconst (v := 0) hx hb dX2_wordsOfProof_4 (by decide) ?_
  have h2nw : 2 ^ nw ≤ 64 := (Nat.pow_le_pow_right (by decide) hnw6 : 2 ^ nw ≤ 2 ^ 6)
  refine lv_istore_n (lv' := [(2, .int 0), (0, .ref (E.2.1 235)), (1, .int x1)]) hx hb dX2_wordsOfProof_5 rfl hl (by decide) rfl (fun ls hl => ?_)
  have lp6 : ∀ (n6 : Nat) (mm : Nat), nw + 1 - mm < n6 → (mm ≤ nw + 1) → (∀ s, s < 2 ^ nw → pop s < mm → (fun s => uAll (xPOk M rr nw x1 s) true n) s = false) → ∀ (H : Heap) (locs : List Loc) (ls : Array Slot), uH E M_2 s_ H locs → lv_has ls 4 [(2, .int (nI mm)), (0, .ref (E.2.1 235)), (1, .int x1)] → W p_ l e_ ({ frames := 7, cells := 0, slots := 0, locals := 164 }) s_ m_ (List.toArray [.ref (E.2.1 235), .int x1]) bl_ me_ c_ H locs 0 0 (MQ bl_ (va_Qi (fun r u => ∃ rr, u = uRow M 238 rr ∧ xPasses M n nw rr ∧ xFew (fun s => uAll (xPOk M rr nw x1 s) true n) (2 ^ nw) r) (uP E) (uA E)) (List.toArray [.ref (E.2.1 235), .int x1]) s_ 0 0 (uA E)) (F0 m_ 6 ls []) := by
    intro n6
    induction n6 with
    | zero => intro mm hms; exact absurd hms (Nat.not_lt_zero _)
    | succ n6 ih6 =>
      intro mm hms6 hmm hm H locs ls h hl
      refine lv_iload_n hx hb dX2_wordsOfProof_6 rfl (lv_at hl 0 rfl) ?_
      refine lv_aload_n hx hb dX2_wordsOfProof_7 rfl (lv_at hl 1 rfl) ?_
      refine ur_get C h 235 (by decide) (uc_235 E _) (Cn := RX2) (T := TX2) (N := 5) rfl hin2 0 (by decide) (by decide +kernel) rfl dX2_wordsOfProof_8 ?_
      refine ur_get C h 1 (by decide) (uc_1 E _) (Cn := RX1) (T := TX1) (N := 11) rfl hin1 4 (by decide) (by decide +kernel) rfl dX2_wordsOfProof_11 ?_
      refine ur_eq (y := nI nw) (by rw [eM_2, u_row1, if_neg (by decide)]; exact hnw) ?_
      refine lv_icmp_gt (tgt := 63) hx hb dX2_wordsOfProof_14 (by decide) (fun c_3 => ?_) (fun c_3 => ?_)
      · skip
        have c_3 : nw < mm := (nI_ltI (a := nw) (b := mm) (by omega) (by omega)).mp c_3
        refine lv_bipush (v := (-4)) hx hb dX2_wordsOfProof_63 (by decide) ?_
        exact ur_iret C h hr hlocks (⟨rr, eM_2, hrr, Or.inl ⟨rfl, fun s hs => hm s hs (Nat.lt_of_le_of_lt (popnw hnw6 hs) (by omega))⟩⟩) dX2_wordsOfProof_65
      · skip
        have c_3 : ¬ nw < mm := fun z => c_3 ((nI_ltI (a := nw) (b := mm) (by omega) (by omega)).mpr z)
        refine lv_iconst (v := 0) hx hb dX2_wordsOfProof_17 (by decide) ?_
        refine lv_istore_n (lv' := [(3, .int 0), (2, .int (nI mm)), (0, .ref (E.2.1 235)), (1, .int x1)]) hx hb dX2_wordsOfProof_18 rfl hl (by decide) rfl (fun ls hl => ?_)
        have lp19 : ∀ (n19 : Nat) (i : Nat), 2 ^ nw - i < n19 → (i ≤ 2 ^ nw) → (∀ s, s < i → pop s = mm → (fun s => uAll (xPOk M rr nw x1 s) true n) s = false) → ∀ (H : Heap) (locs : List Loc) (ls : Array Slot), uH E M_2 s_ H locs → lv_has ls 4 [(3, .int (nI i)), (2, .int (nI mm)), (0, .ref (E.2.1 235)), (1, .int x1)] → W p_ l e_ ({ frames := 7, cells := 0, slots := 0, locals := 164 }) s_ m_ (List.toArray [.ref (E.2.1 235), .int x1]) bl_ me_ c_ H locs 0 0 (MQ bl_ (va_Qi (fun r u => ∃ rr, u = uRow M 238 rr ∧ xPasses M n nw rr ∧ xFew (fun s => uAll (xPOk M rr nw x1 s) true n) (2 ^ nw) r) (uP E) (uA E)) (List.toArray [.ref (E.2.1 235), .int x1]) s_ 0 0 (uA E)) (F0 m_ 19 ls []) := by
          intro n19
          induction n19 with
          | zero => intro i hms; exact absurd hms (Nat.not_lt_zero _)
          | succ n19 ih19 =>
            intro i hms19 hi hin H locs ls h hl
            refine lv_iload_n hx hb dX2_wordsOfProof_19 rfl (lv_at hl 0 rfl) ?_
            refine lv_iconst (v := 1) hx hb dX2_wordsOfProof_20 (by decide) ?_
            refine lv_aload_n hx hb dX2_wordsOfProof_21 rfl (lv_at hl 2 rfl) ?_
            refine ur_get C h 235 (by decide) (uc_235 E _) (Cn := RX2) (T := TX2) (N := 5) rfl hin2 0 (by decide) (by decide +kernel) rfl dX2_wordsOfProof_22 ?_
            refine ur_get C h 1 (by decide) (uc_1 E _) (Cn := RX1) (T := TX1) (N := 11) rfl hin1 4 (by decide) (by decide +kernel) rfl dX2_wordsOfProof_25 ?_
            refine ur_eq (y := nI nw) (by rw [eM_2, u_row1, if_neg (by decide)]; exact hnw) ?_
            refine lv_ishl hx hb dX2_wordsOfProof_28 ?_
            refine ur_eq (y := nI (2 ^ nw)) (u_sh6 ⟨nw, by omega⟩) ?_
            refine lv_icmp_ge (tgt := 57) hx hb dX2_wordsOfProof_29 (by decide) (fun c_4 => ?_) (fun c_4 => ?_)
            · skip
              have c_4 : (2 ^ nw) ≤ i := (nI_leI (a := (2 ^ nw)) (b := i) (by omega) (by omega)).mp c_4
              refine lv_iinc (v := nI (mm + 1)) (lv' := [(2, .int (nI (mm + 1))), (3, .int (nI i)), (0, .ref (E.2.1 235)), (1, .int x1)]) hx hb dX2_wordsOfProof_57 hl (k := 1) rfl (nI_add mm 1) (by decide) rfl (fun ls hl => ?_)
              refine lv_goto (tgt := 6) hx hb dX2_wordsOfProof_60 (by decide) ?_
              exact ih6  (mm + 1) (by omega) (by omega) (fun s h1 h2 => by rcases Nat.lt_or_ge (pop s) mm with z | z; exact hm s h1 z; exact hin s (by omega) (by omega)) _ _ _ h (lv_sub hl [0, 2, 3] rfl)
            · skip
              have c_4 : ¬ (2 ^ nw) ≤ i := fun z => c_4 ((nI_leI (a := (2 ^ nw)) (b := i) (by omega) (by omega)).mpr z)
              refine lv_iload_n hx hb dX2_wordsOfProof_32 rfl (lv_at hl 0 rfl) ?_
              refine ur_callSi C h (As := [.int (nI i)]) (rest := []) (k_J6_bitCount_0f7a4 l E hI M_2 i (by omega)) (va_cwS 1 hts gX2_wordsOfProof_J6_bitCount_0f7a4 rfl rfl rfl (by decide +kernel) ⟨Nat.le_of_ble_eq_true rfl, Nat.le_of_ble_eq_true rfl⟩) rfl hl.1 rfl (Nat.le_of_ble_eq_true rfl) dX2_wordsOfProof_33 (fun r_5 M_6 H locs hw_6 h => ?_)
              obtain ⟨hu, er_5⟩ := hw_6
              subst hu
              refine ur_eq (y := nI (pop i)) er_5 ?_
              have hpr_5 : pop i ≤ 6 := pop6 (by omega)
              refine lv_iload_n hx hb dX2_wordsOfProof_36 rfl (lv_at hl 1 rfl) ?_
              refine lv_icmp_ne (tgt := 51) hx hb dX2_wordsOfProof_37 (by decide) (fun c_7 => ?_) (fun c_7 => ?_)
              · skip
                have c_7 : ¬ (pop i) = mm := fun z => c_7 ((nI_eq (a := (pop i)) (b := mm) (by omega) (by omega)).mpr z)
                refine lv_iinc (v := nI (i + 1)) (lv' := [(3, .int (nI (i + 1))), (2, .int (nI mm)), (0, .ref (E.2.1 235)), (1, .int x1)]) hx hb dX2_wordsOfProof_51 hl (k := 0) rfl (nI_add i 1) (by decide) rfl (fun ls hl => ?_)
                refine lv_goto (tgt := 19) hx hb dX2_wordsOfProof_54 (by decide) ?_
                exact ih19  (i + 1) (by omega) (by omega) (fun s z1 z2 => by rcases Nat.lt_or_ge s i with z | z; exact hin s z z2; exact absurd z2 (by rw [show s = i by omega]; exact c_7)) _ _ _ h (lv_sub hl [0, 1, 2, 3] rfl)
              · skip
                have c_7 : (pop i) = mm := (nI_eq (a := (pop i)) (b := mm) (by omega) (by omega)).mp c_7
                refine lv_aload_n hx hb dX2_wordsOfProof_40 rfl (lv_at hl 2 rfl) ?_
                refine lv_iload_n hx hb dX2_wordsOfProof_41 rfl (lv_at hl 0 rfl) ?_
                refine lv_iload_n hx hb dX2_wordsOfProof_42 rfl (lv_at hl 3 rfl) ?_
                refine ur_callVi C h (k := 235) (As := [.int (nI i), .int x1]) (rest := []) (k_X2_isProof l E hI M_2 i x1 (by omega) n (by rw [eM_2, u_row1, if_neg (by decide)]; exact hn) hn6 nw (by rw [eM_2, u_row1, if_neg (by decide)]; exact hnw) hnw6) (cwV 2 hts gX2_wordsOfProof_X2_isProof rfl rfl rfl (by decide +kernel) ⟨Nat.le_of_ble_eq_true rfl, Nat.le_of_ble_eq_true rfl⟩) (by decide) (uc_235 E _) (T := TX2) (N := 5) rfl rfl hl.1 rfl (Nat.le_of_ble_eq_true rfl) dX2_wordsOfProof_43 (fun r_8 M_9 H locs hw_9 h => ?_)
                obtain ⟨hu, er_8⟩ := hw_9
                subst hu
                refine lv_if_eq (tgt := 51) hx hb dX2_wordsOfProof_46 (by decide) (fun c_10 => ?_) (fun c_10 => ?_)
                · skip
                  have c_10 : ¬ (uAll (xPOk M_2 (M_2.1 238) nw x1 i) true n = true) := uz_f er_8 c_10
                  refine lv_iinc (v := nI (i + 1)) (lv' := [(3, .int (nI (i + 1))), (2, .int (nI mm)), (0, .ref (E.2.1 235)), (1, .int x1)]) hx hb dX2_wordsOfProof_51 hl (k := 0) rfl (nI_add i 1) (by decide) rfl (fun ls hl => ?_)
                  refine lv_goto (tgt := 19) hx hb dX2_wordsOfProof_54 (by decide) ?_
                  exact ih19  (i + 1) (by omega) (by omega) (fun s z1 z2 => by rcases Nat.lt_or_ge s i with z | z; exact hin s z z2; rw [show s = i by omega]; exact Bool.eq_false_iff.mpr (fun z => c_10 (by rw [eM_2]; exact z))) _ _ _ h (lv_sub hl [0, 1, 2, 3] rfl)
                · skip
                  have c_10 : uAll (xPOk M_2 (M_2.1 238) nw x1 i) true n = true := uz_t er_8 c_10
                  refine lv_iload_n hx hb dX2_wordsOfProof_49 rfl (lv_at hl 0 rfl) ?_
                  exact ur_iret C h hr hlocks (⟨rr, eM_2, hrr, Or.inr ⟨i, by omega, rfl, by have := c_10; rw [eM_2] at this; exact this, fun s1 h1 h2 => by rcases Nat.lt_or_ge mm (pop s1) with z | z; (left; omega); rcases Nat.lt_or_ge (pop s1) mm with z3 | z3; exact absurd h2 (by rw [hm s1 h1 z3]; decide); right; refine ⟨by omega, ?_⟩; rcases Nat.lt_or_ge s1 i with z4 | z4; exact absurd h2 (by rw [hin s1 z4 (by omega)]; decide); exact z4⟩⟩) dX2_wordsOfProof_50
        exact lp19 _ 0 (Nat.lt_succ_self _) (Nat.zero_le _) (fun s h _ => absurd h (Nat.not_lt_zero _)) _ _ _ h (lv_sub hl [0, 1, 2, 3] rfl)
  exact lp6 _ 0 (Nat.lt_succ_self _) (by omega) (fun s _ h => absurd h (Nat.not_lt_zero _)) _ _ _ h (lv_sub hl [0, 1, 2] rfl)
