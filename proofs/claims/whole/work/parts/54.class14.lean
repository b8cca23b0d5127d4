set_option maxHeartbeats 1000000 in
set_option maxRecDepth 100000 in
theorem k_X5_isTongues (l : Launch) (E : uE) (hI : uI E) (S : uS) (M : uM) (ty : Nat) (hty : M.1 240 1 = nI ty) (hty90 : ty ≤ 90) (hch : ∀ i, i < ty → narrow .char (.int (M.1 241 i)) = .int (M.1 241 i)) : Met l yX5_isTongues wsX5_isTongues ({ frames := 7, cells := 0, slots := 0, locals := 160 }) (va_Pc [.ref (E.2.1 240)] (uBt E S M)) (va_Qi (fun r u => tFr M u ∧ if (fAll (tS (M.1 241) ty)).1 = true then r = 1 ∧ tRead (tS (M.1 241) ty) u else r = 0 ∧ u.1 240 2 = nI (tQ (M.1 241) ty (fAll (tS (M.1 241) ty)).2)) (uP E) (uA E)) 0 0 (uA E) := by
  have hin1 : ∀ w ∈ wsX10, w ∈ wsX5_isTongues := by decide +kernel
  have hin5 : ∀ w ∈ wsX50, w ∈ wsX5_isTongues := by decide +kernel
  refine u_startT (cc := cX5_isTongues) (maxL := 1) (ret := (some .boolean)) hI (by decide) rfl (Nat.le_of_ble_eq_true rfl) ?_
  intro p_ e_ s_ m_ bl_ me_ c_ C hT hr hlocks h ls hl
  have hx := C.1.1
  have hb := C.1.2.1
  have hown : s_.vm.findClass RX5 = some m_.cls := C.1.2.2.2.1
  have hts := C.1.2.2.2.2
  have hl : lv_has ls 1 [(0, .ref (E.2.1 240))] := hl
  refine lv_aload_n hx hb dX5_isTongues_0 rfl (lv_at hl 0 rfl) ?_
  refine lv_iconst (v := 0) hx hb dX5_isTongues_1 (by decide) ?_
  refine ur_puti C h 240 (by decide) (uc_240 E _) (Cn := RX5) (T := TX5) (N := 4) rfl hin5 tyX5 tyX5_ok nmX5 2 (by decide) (by decide +kernel) rfl rfl rfl (Nat.le_of_ble_eq_true rfl) (us_240_2 E _ _) dX5_isTongues_2 (fun M_1 H locs eM_1 h => ?_)
  refine lv_aload_n hx hb dX5_isTongues_5 rfl (lv_at hl 0 rfl) ?_
  refine ur_get C h 240 (by decide) (uc_240 E _) (Cn := RX5) (T := TX5) (N := 4) rfl hin5 3 (by decide) (by decide +kernel) rfl dX5_isTongues_6 ?_
  refine lv_iconst (v := 0) hx hb dX5_isTongues_9 (by decide) ?_
  refine ur_puti C h 157 (by decide) (uc_157 E _) (Cn := RX1) (T := TX1) (N := 11) rfl hin1 tyX1 tyX1_ok nmX1 0 (by decide) (by decide +kernel) rfl rfl rfl (Nat.le_of_ble_eq_true rfl) (us_157_0 E _ _) dX5_isTongues_10 (fun M_2 H locs eM_2 h => ?_)
  refine lv_aload_n hx hb dX5_isTongues_13 rfl (lv_at hl 0 rfl) ?_
  refine ur_get C h 240 (by decide) (uc_240 E _) (Cn := RX5) (T := TX5) (N := 4) rfl hin5 3 (by decide) (by decide +kernel) rfl dX5_isTongues_14 ?_
  refine lv_iconst (v := 0) hx hb dX5_isTongues_17 (by decide) ?_
  refine ur_puti C h 157 (by decide) (uc_157 E _) (Cn := RX1) (T := TX1) (N := 11) rfl hin1 tyX1 tyX1_ok nmX1 4 (by decide) (by decide +kernel) rfl rfl rfl (Nat.le_of_ble_eq_true rfl) (us_157_4 E _ _) dX5_isTongues_18 (fun M_3 H locs eM_3 h => ?_)
  have hp3 : M_3.1 240 2 = nI (tN (M.1 241) ty (0)) := by rw [eM_3, eM_2, eM_1]; rfl
  have h241c : M_3.1 241 = M.1 241 := by rw [eM_3, eM_2, eM_1]; rfl
  have htyc : M_3.1 240 1 = nI ty := by rw [eM_3, eM_2, eM_1]; exact hty
  have ht0c : tFr M M_3 := tFr_trans (tFr_trans (show tFr M M_1 from by rw [eM_1]; exact tFr_place _ _) (show tFr M_1 M_2 from by rw [eM_2]; exact tFr_f (Or.inl rfl))) (show tFr M_2 M_3 from by rw [eM_3]; exact tFr_f (Or.inr (Or.inl rfl)))
  have h03 : M_3.1 157 0 = nI 0 := by rw [eM_3, eM_2, eM_1]; rfl
  have h43 : M_3.1 157 4 = nI 0 := by rw [eM_3, eM_2, eM_1]; rfl
  refine lv_aload_n hx hb dX5_isTongues_21 rfl (lv_at hl 0 rfl) ?_
  refine ur_get C h 240 (by decide) (uc_240 E _) (Cn := RX5) (T := TX5) (N := 4) rfl hin5 3 (by decide) (by decide +kernel) rfl dX5_isTongues_22 ?_
  refine lv_aload_n hx hb dX5_isTongues_25 rfl (lv_at hl 0 rfl) ?_
  refine va_ldcS hx hb hown hT.2.2.1 dX5_isTongues_26 ?_
  refine lv_iconst (v := 0) hx hb dX5_isTongues_28 (by decide) ?_
  refine ut_callVi C hT h (k := 240) (As := [.ref (S.1 0), .int 0]) (rest := [.ref (E.2.1 157)]) (k_X5_take l E hI S M_3 0 (by decide) 0 ty htyc hty90 (by rw [h241c]; exact hch) (tN (M.1 241) ty (0)) hp3 (Nat.zero_le _)) (cwV 2 hts gX5_isTongues_X5_take rfl rfl rfl (by decide +kernel) ⟨Nat.le_of_ble_eq_true rfl, Nat.le_of_ble_eq_true rfl⟩) (by decide) (uc_240 E _) (T := TX5) (N := 4) rfl rfl hl.1 rfl (Nat.le_of_ble_eq_true rfl) dX5_isTongues_29 (fun r_4 M_5 H locs hw_5 h => ?_)
  obtain ⟨eM_5, er_4⟩ := hw_5
  rw [h241c] at eM_5 er_4
  rw [tAt_of rfl, show tSk (M.1 241) ty (tN (M.1 241) ty (0)) = (tQ (M.1 241) ty (0)) from rfl] at eM_5
  rw [tAt_of rfl] at er_4
  have h241M_5 : M_5.1 241 = M.1 241 := (show M_5.1 241 = M_3.1 241 from by rw [eM_5, u_set_far (by decide)]).trans h241c
  have ht0M_5 : tFr M M_5 := tFr_trans ht0c (show tFr M_3 M_5 from by rw [eM_5]; exact tFr_place _ _)
  have htyM_5 : M_5.1 240 1 = nI ty := by rw [eM_5, u_set1, if_pos rfl, if_neg (by decide)]; exact htyc
  refine ur_puti C h 157 (by decide) (uc_157 E _) (Cn := RX1) (T := TX1) (N := 11) rfl hin1 tyX1 tyX1_ok nmX1 6 (by decide) (by decide +kernel) rfl rfl rfl (Nat.le_of_ble_eq_true rfl) (us_157_6 E _ _) dX5_isTongues_32 (fun M_6 H locs eM_6 h => ?_)
  have h241M_6 : M_6.1 241 = M.1 241 := by rw [eM_6]; exact h241M_5
  have htyM_6 : M_6.1 240 1 = nI ty := by rw [eM_6]; exact htyM_5
  have ht0M_6 : tFr M M_6 := tFr_trans ht0M_5 (show tFr M_5 M_6 from by rw [eM_6]; exact tFr_f (Or.inr (Or.inr rfl)))
  have h05 : M_6.1 157 0 = nI 0 := by rw [eM_6, u_set1, if_pos rfl, if_neg (by decide)]; exact (by rw [eM_5, u_set_far (by decide)]; exact h03)
  have h45 : M_6.1 157 4 = nI 0 := by rw [eM_6, u_set1, if_pos rfl, if_neg (by decide)]; exact (by rw [eM_5, u_set_far (by decide)]; exact h43)
  have hear : M_6.1 157 6 = r_4 := by rw [eM_6]; rfl
  refine lv_aload_n hx hb dX5_isTongues_35 rfl (lv_at hl 0 rfl) ?_
  refine ur_get C h 240 (by decide) (uc_240 E _) (Cn := RX5) (T := TX5) (N := 4) rfl hin5 3 (by decide) (by decide +kernel) rfl dX5_isTongues_36 ?_
  refine ur_get C h 157 (by decide) (uc_157 E _) (Cn := RX1) (T := TX1) (N := 11) rfl hin1 6 (by decide) (by decide +kernel) rfl dX5_isTongues_39 ?_
  refine ur_eq (y := r_4) hear ?_
  refine lv_if_lt (tgt := 73) hx hb dX5_isTongues_42 (by decide) (fun c_7 => ?_) (fun c_7 => ?_)
  · skip
    have c_7 := Int32.not_le.mpr c_7
    have hbM_5 := t_nge er_4 (by decide) c_7
    have hpM_5 : M_5.1 240 2 = nI (tQ (M.1 241) ty (0)) := by rw [eM_5, if_neg hbM_5]; rfl
    refine lv_iconst (v := 0) hx hb dX5_isTongues_73 (by decide) ?_
    exact ur_zret C h hr (by rfl) hlocks (⟨ht0M_6, by rw [show (fAll (tS (M.1 241) ty)) = (false, 0) from if_neg hbM_5, if_neg (by decide)]; exact ⟨rfl, by rw [eM_6]; exact hpM_5⟩⟩) dX5_isTongues_74
  · skip
    have c_7 := Int32.not_lt.mp c_7
    obtain ⟨hgM_5, hrM_5⟩ := t_ge er_4 (by decide) c_7
    have hpM_5 : M_5.1 240 2 = nI (tN (M.1 241) ty (0 + 1)) := by rw [eM_5, if_pos hgM_5]; rfl
    have hqM_5 : (tN (M.1 241) ty (0 + 1)) ≤ ty := t_lt (k := 0) (by decide) (by decide) hgM_5
    have hpM_6 : M_6.1 240 2 = nI (tN (M.1 241) ty (1)) := by rw [eM_6]; exact hpM_5
    refine lv_aload_n hx hb dX5_isTongues_45 rfl (lv_at hl 0 rfl) ?_
    refine va_ldcS hx hb hown hT.2.2.2.1 dX5_isTongues_46 ?_
    refine lv_iconst (v := 0) hx hb dX5_isTongues_48 (by decide) ?_
    refine ut_callVi C hT h (k := 240) (As := [.ref (S.1 1), .int 0]) (rest := []) (k_X5_take l E hI S M_6 1 (by decide) 0 ty htyM_6 hty90 (by rw [h241M_6]; exact hch) (tN (M.1 241) ty (1)) hpM_6 hqM_5) (cwV 2 hts gX5_isTongues_X5_take rfl rfl rfl (by decide +kernel) ⟨Nat.le_of_ble_eq_true rfl, Nat.le_of_ble_eq_true rfl⟩) (by decide) (uc_240 E _) (T := TX5) (N := 4) rfl rfl hl.1 rfl (Nat.le_of_ble_eq_true rfl) dX5_isTongues_49 (fun r_8 M_9 H locs hw_9 h => ?_)
    obtain ⟨eM_9, er_8⟩ := hw_9
    rw [h241M_6] at eM_9 er_8
    rw [tAt_of rfl, show tSk (M.1 241) ty (tN (M.1 241) ty (1)) = (tQ (M.1 241) ty (1)) from rfl] at eM_9
    rw [tAt_of rfl] at er_8
    have h241M_9 : M_9.1 241 = M.1 241 := (show M_9.1 241 = M_6.1 241 from by rw [eM_9, u_set_far (by decide)]).trans h241M_6
    have ht0M_9 : tFr M M_9 := tFr_trans ht0M_6 (show tFr M_6 M_9 from by rw [eM_9]; exact tFr_place _ _)
    have htyM_9 : M_9.1 240 1 = nI ty := by rw [eM_9, u_set1, if_pos rfl, if_neg (by decide)]; exact htyM_6
    refine lv_if_lt (tgt := 73) hx hb dX5_isTongues_52 (by decide) (fun c_10 => ?_) (fun c_10 => ?_)
    · skip
      have c_10 := Int32.not_le.mpr c_10
      have hbM_9 := t_nge er_8 (by decide) c_10
      have hpM_9 : M_9.1 240 2 = nI (tQ (M.1 241) ty (1)) := by rw [eM_9, if_neg hbM_9]; rfl
      refine lv_iconst (v := 0) hx hb dX5_isTongues_73 (by decide) ?_
      exact ur_zret C h hr (by rfl) hlocks (⟨ht0M_9, by rw [show (fAll (tS (M.1 241) ty)) = (false, 1) from (if_pos hgM_5).trans (if_neg hbM_9), if_neg (by decide)]; exact ⟨rfl, hpM_9⟩⟩) dX5_isTongues_74
    · skip
      have c_10 := Int32.not_lt.mp c_10
      obtain ⟨hgM_9, hrM_9⟩ := t_ge er_8 (by decide) c_10
      have hpM_9 : M_9.1 240 2 = nI (tN (M.1 241) ty (1 + 1)) := by rw [eM_9, if_pos hgM_9]; rfl
      have hqM_9 : (tN (M.1 241) ty (1 + 1)) ≤ ty := t_lt (k := 1) (by decide) (by decide) hgM_9
      refine lv_aload_n hx hb dX5_isTongues_55 rfl (lv_at hl 0 rfl) ?_
      refine ut_callVi C hT h (k := 240) (As := []) (rest := []) (k_X5_takeSpeakers l E hI S M_9 ty htyM_9 hty90 (by rw [h241M_9]; exact hch) (tN (M.1 241) ty (2)) hpM_9 hqM_9 2 (by rw [h241M_9]; exact rfl) (by rw [eM_9, u_set_far (by decide)]; exact h05)) (cwV 0 hts gX5_isTongues_X5_takeSpeakers rfl rfl rfl (by decide +kernel) ⟨Nat.le_of_ble_eq_true rfl, Nat.le_of_ble_eq_true rfl⟩) (by decide) (uc_240 E _) (T := TX5) (N := 4) rfl rfl hl.1 rfl (Nat.le_of_ble_eq_true rfl) dX5_isTongues_56 (fun r_11 M_12 H locs hw_12 h => ?_)
      rw [h241M_9] at hw_12
      obtain ⟨ht1M_12, hqM_12⟩ := hw_12
      unfold tSpsPost at hqM_12
      have er_11 := tSps_if hqM_12
      have h241M_12 : M_12.1 241 = M.1 241 := (ht1M_12.1.1 241 (by decide) (by decide)).trans h241M_9
      have htyM_12 : M_12.1 240 1 = nI ty := (ht1M_12.1.2.2.1 1 (by decide)).trans htyM_9
      have ht0M_12 : tFr M M_12 := tFr_trans ht0M_9 ht1M_12.1
      have h4M_12 : M_12.1 157 4 = nI 0 := ht1M_12.2.1.trans (by rw [eM_9, u_set_far (by decide)]; exact h45)
      have hearM_12 : M_12.1 157 6 = r_4 := ht1M_12.2.2.1.trans (by rw [eM_9, u_set_far (by decide)]; exact hear)
      refine lv_if_eq (tgt := 73) hx hb dX5_isTongues_59 (by decide) (fun c_13 => ?_) (fun c_13 => ?_)
      · skip
        have c_13 : ¬ ((fSps (tS (M.1 241) ty) 2 0 6).1 = true ∧ 0 ≤ tIx 1 ((tS (M.1 241) ty) (fSps (tS (M.1 241) ty) 2 0 6).2.1)) := uz_f er_11 c_13
        refine lv_iconst (v := 0) hx hb dX5_isTongues_73 (by decide) ?_
        exact ur_zret C h hr (by rfl) hlocks (⟨ht0M_12, by rw [show (fAll (tS (M.1 241) ty)) = (false, (fSps (tS (M.1 241) ty) 2 0 6).2.1) from (if_pos hgM_5).trans ((if_pos hgM_9).trans (if_neg c_13)), if_neg (Bool.false_ne_true)]; rw [if_neg c_13] at hqM_12; exact ⟨rfl, hqM_12.2⟩⟩) dX5_isTongues_74
      · skip
        have c_13 : (fSps (tS (M.1 241) ty) 2 0 6).1 = true ∧ 0 ≤ tIx 1 ((tS (M.1 241) ty) (fSps (tS (M.1 241) ty) 2 0 6).2.1) := uz_t er_11 c_13
        rw [if_pos c_13] at hqM_12
        obtain ⟨-, hspM_12, hplM_12, hqlM_12, hdtM_12⟩ := hqM_12
        refine lv_aload_n hx hb dX5_isTongues_62 rfl (lv_at hl 0 rfl) ?_
        refine ut_callVi C hT h (k := 240) (As := []) (rest := []) (k_X5_takeWords l E hI S M_12 ty htyM_12 hty90 (by rw [h241M_12]; exact hch) (tN (M.1 241) ty ((fSps (tS (M.1 241) ty) 2 0 6).2.1 + 1)) hplM_12 hqlM_12 ((fSps (tS (M.1 241) ty) 2 0 6).2.1 + 1) (by rw [h241M_12]; exact rfl) (by rw [h241M_12]; exact hqlM_12) h4M_12) (cwV 0 hts gX5_isTongues_X5_takeWords rfl rfl rfl (by decide +kernel) ⟨Nat.le_of_ble_eq_true rfl, Nat.le_of_ble_eq_true rfl⟩) (by decide) (uc_240 E _) (T := TX5) (N := 4) rfl rfl hl.1 rfl (Nat.le_of_ble_eq_true rfl) dX5_isTongues_63 (fun r_14 M_15 H locs hw_15 h => ?_)
        rw [h241M_12] at hw_15
        obtain ⟨ht1M_15, hqM_15⟩ := hw_15
        unfold tWdsPost at hqM_15
        have er_14 := tSps_if hqM_15
        have ht0M_15 : tFr M M_15 := tFr_trans ht0M_12 ht1M_15.1
        refine lv_if_eq (tgt := 73) hx hb dX5_isTongues_66 (by decide) (fun c_16 => ?_) (fun c_16 => ?_)
        · skip
          have c_16 : ¬ ((fWds (tS (M.1 241) ty) ((fSps (tS (M.1 241) ty) 2 0 6).2.1 + 1) 0 6).1 = true ∧ (tS (M.1 241) ty) (fWds (tS (M.1 241) ty) ((fSps (tS (M.1 241) ty) 2 0 6).2.1 + 1) 0 6).2.1 = 0) := uz_f er_14 c_16
          refine lv_iconst (v := 0) hx hb dX5_isTongues_73 (by decide) ?_
          exact ur_zret C h hr (by rfl) hlocks (⟨ht0M_15, by rw [show (fAll (tS (M.1 241) ty)) = (false, (fWds (tS (M.1 241) ty) ((fSps (tS (M.1 241) ty) 2 0 6).2.1 + 1) 0 6).2.1) from (if_pos hgM_5).trans ((if_pos hgM_9).trans ((if_pos c_13).trans (if_neg c_16))), if_neg (Bool.false_ne_true)]; rw [if_neg c_16] at hqM_15; exact ⟨rfl, hqM_15.2⟩⟩) dX5_isTongues_74
        · skip
          have c_16 : (fWds (tS (M.1 241) ty) ((fSps (tS (M.1 241) ty) 2 0 6).2.1 + 1) 0 6).1 = true ∧ (tS (M.1 241) ty) (fWds (tS (M.1 241) ty) ((fSps (tS (M.1 241) ty) 2 0 6).2.1 + 1) 0 6).2.1 = 0 := uz_t er_14 c_16
          refine lv_iconst (v := 1) hx hb dX5_isTongues_69 (by decide) ?_
          refine lv_goto (tgt := 74) hx hb dX5_isTongues_70 (by decide) ?_
          exact ur_zret C h hr (by rfl) hlocks (⟨ht0M_15, by rw [show (fAll (tS (M.1 241) ty)) = (true, (fWds (tS (M.1 241) ty) ((fSps (tS (M.1 241) ty) 2 0 6).2.1 + 1) 0 6).2.1) from (if_pos hgM_5).trans ((if_pos hgM_9).trans ((if_pos c_13).trans (if_pos c_16))), if_pos rfl]; rw [if_pos c_16] at hqM_15; exact ⟨rfl, ht1M_15.2.1.trans hspM_12, hqM_15.2.1, (ht1M_15.2.2.1.trans hearM_12).trans hrM_5, fun i hi => tDat_J ht1M_15 (hdtM_12 i hi), hqM_15.2.2⟩⟩) dX5_isTongues_74
set_option maxHeartbeats 1000000 in
set_option maxRecDepth 100000 in
theorem k_X6_tongues (l : Launch) (E : uE) (hI : uI E) (S : uS) (M : uM) (ty : Nat) (hty : M.1 240 1 = nI ty) (hty90 : ty ≤ 90) (hch : ∀ i, i < ty → narrow .char (.int (M.1 241 i)) = .int (M.1 241 i)) (hk157 : M.1 157 10 = nI 0) (hP6 : ∀ i, i < 8 → uMom (M.2.2 6 i)) (hP162 : ∀ i, i < 8 → uMom (M.2.2 162 i)) : Met l yX6_tongues wsX6_tongues ({ frames := 8, cells := 0, slots := 0, locals := 180 }) (va_Pc [.ref (E.2.1 0)] (uBt E S M)) (va_Qi (fun r u => ∃ v, tFr M v ∧ if (fAll (tS (M.1 241) ty)).1 = true then tRead (tS (M.1 241) ty) v ∧ u = xSettle (uSet v 240 1 0) 0 ∧ r = u.1 1 0 else u = uSet v 240 1 0 ∧ r = (-20) - nI (tQ (M.1 241) ty (fAll (tS (M.1 241) ty)).2)) (uP E) (uA E)) 0 0 (uA E) := by
  have hin1 : ∀ w ∈ wsX10, w ∈ wsX6_tongues := by decide +kernel
  have hin5 : ∀ w ∈ wsX50, w ∈ wsX6_tongues := by decide +kernel
  have hin6 : ∀ w ∈ wsX60, w ∈ wsX6_tongues := by decide +kernel
  refine u_startT (cc := cX6_tongues) (maxL := 2) (ret := (some .int)) hI (by decide) rfl (Nat.le_of_ble_eq_true rfl) ?_
  intro p_ e_ s_ m_ bl_ me_ c_ C hT hr hlocks h ls hl
  have hx := C.1.1
  have hb := C.1.2.1
  have hown : s_.vm.findClass RX6 = some m_.cls := C.1.2.2.2.1
  have hts := C.1.2.2.2.2
  have hl : lv_has ls 2 [(0, .ref (E.2.1 0))] := hl
  refine lv_aload_n hx hb dX6_tongues_0 rfl (lv_at hl 0 rfl) ?_
  refine ur_get C h 0 (by decide) (uc_0 E _) (Cn := RX6) (T := TX6) (N := 6) rfl hin6 4 (by decide) (by decide +kernel) rfl dX6_tongues_1 ?_
  refine ut_callVi C hT h (k := 240) (As := []) (rest := []) (k_X5_isTongues l E hI S M ty hty hty90 hch) (cwV 0 hts gX6_tongues_X5_isTongues rfl rfl rfl (by decide +kernel) ⟨Nat.le_of_ble_eq_true rfl, Nat.le_of_ble_eq_true rfl⟩) (by decide) (uc_240 E _) (T := TX5) (N := 4) rfl rfl hl.1 rfl (Nat.le_of_ble_eq_true rfl) dX6_tongues_4 (fun r_1 M_2 H locs hw_2 h => ?_)
  obtain ⟨ht1, hq1⟩ := hw_2
  have er_1 := tSps_if hq1
  refine lv_istore_n (lv' := [(1, .int r_1), (0, .ref (E.2.1 0))]) hx hb dX6_tongues_7 rfl hl (by decide) rfl (fun ls hl => ?_)
  refine lv_aload_n hx hb dX6_tongues_8 rfl (lv_at hl 1 rfl) ?_
  refine ur_get C h 0 (by decide) (uc_0 E _) (Cn := RX6) (T := TX6) (N := 6) rfl hin6 4 (by decide) (by decide +kernel) rfl dX6_tongues_9 ?_
  refine lv_iconst (v := 0) hx hb dX6_tongues_12 (by decide) ?_
  refine ur_puti C h 240 (by decide) (uc_240 E _) (Cn := RX5) (T := TX5) (N := 4) rfl hin5 tyX5 tyX5_ok nmX5 1 (by decide) (by decide +kernel) rfl rfl rfl (Nat.le_of_ble_eq_true rfl) (us_240_1 E _ _) dX6_tongues_13 (fun M_3 H locs eM_3 h => ?_)
  refine lv_iload_n hx hb dX6_tongues_16 rfl (lv_at hl 0 rfl) ?_
  refine lv_if_ne (tgt := 31) hx hb dX6_tongues_17 (by decide) (fun c_4 => ?_) (fun c_4 => ?_)
  · skip
    have c_4 : (fAll (tS (M.1 241) ty)).1 = true := uz_t er_1 c_4
    rw [if_pos c_4] at hq1
    refine lv_aload_n hx hb dX6_tongues_31 rfl (lv_at hl 1 rfl) ?_
    refine ur_get C h 0 (by decide) (uc_0 E _) (Cn := RX6) (T := TX6) (N := 6) rfl hin6 0 (by decide) (by decide +kernel) rfl dX6_tongues_32 ?_
    refine lv_aload_n hx hb dX6_tongues_35 rfl (lv_at hl 1 rfl) ?_
    refine ur_get C h 0 (by decide) (uc_0 E _) (Cn := RX6) (T := TX6) (N := 6) rfl hin6 4 (by decide) (by decide +kernel) rfl dX6_tongues_36 ?_
    refine ur_get C h 240 (by decide) (uc_240 E _) (Cn := RX5) (T := TX5) (N := 4) rfl hin5 3 (by decide) (by decide +kernel) rfl dX6_tongues_39 ?_
    refine ur_callVv C h (k := 1) (As := [.ref (E.2.1 157)]) (rest := []) (k_X1_settle l E hI M_3 0 (by rw [eM_3, u_set_far (by decide)]; exact (ht1.2.1 10 (by decide) (by decide) (by decide)).trans hk157) (by omega) (by rw [eM_3]; show ∀ i, i < 8 → uMom (M_2.2.2 6 i); rw [ht1.2.2.2]; exact hP6) (by rw [eM_3]; show ∀ i, i < 8 → uMom (M_2.2.2 162 i); rw [ht1.2.2.2]; exact hP162)) (cwV 1 hts gX6_tongues_X1_settle rfl rfl rfl (by decide +kernel) ⟨Nat.le_of_ble_eq_true rfl, Nat.le_of_ble_eq_true rfl⟩) (by decide) (uc_1 E _) (T := TX1) (N := 11) rfl rfl hl.1 rfl (Nat.le_of_ble_eq_true rfl) dX6_tongues_42 (fun M_6 H locs hw_6 h => ?_)
    have eM_6 := hw_6
    refine lv_aload_n hx hb dX6_tongues_45 rfl (lv_at hl 1 rfl) ?_
    refine ur_get C h 0 (by decide) (uc_0 E _) (Cn := RX6) (T := TX6) (N := 6) rfl hin6 0 (by decide) (by decide +kernel) rfl dX6_tongues_46 ?_
    refine ur_get C h 1 (by decide) (uc_1 E _) (Cn := RX1) (T := TX1) (N := 11) rfl hin1 0 (by decide) (by decide +kernel) rfl dX6_tongues_49 ?_
    exact ur_iret C h hr hlocks (⟨M_2, ht1, by rw [if_pos c_4]; exact ⟨hq1.2, by rw [eM_6, eM_3], rfl⟩⟩) dX6_tongues_52
  · skip
    have c_4 : ¬ ((fAll (tS (M.1 241) ty)).1 = true) := uz_f er_1 c_4
    rw [if_neg c_4] at hq1
    refine lv_bipush (v := (-20)) hx hb dX6_tongues_20 (by decide) ?_
    refine lv_aload_n hx hb dX6_tongues_22 rfl (lv_at hl 1 rfl) ?_
    refine ur_get C h 0 (by decide) (uc_0 E _) (Cn := RX6) (T := TX6) (N := 6) rfl hin6 4 (by decide) (by decide +kernel) rfl dX6_tongues_23 ?_
    refine ur_get C h 240 (by decide) (uc_240 E _) (Cn := RX5) (T := TX5) (N := 4) rfl hin5 2 (by decide) (by decide +kernel) rfl dX6_tongues_26 ?_
    refine lv_isub hx hb dX6_tongues_29 ?_
    exact ur_iret C h hr hlocks (⟨M_2, ht1, by rw [if_neg c_4]; exact ⟨eM_3, by rw [eM_3, u_set1, if_pos rfl, if_neg (by decide), hq1.2]⟩⟩) dX6_tongues_30
