set_option maxHeartbeats 1000000 in
set_option maxRecDepth 100000 in
theorem k_X7_readSpeakers_f (l : Launch) (E : uE) (hI : uI E) (M : uM) (hf : M.1 251 4 = 1) : Met l yX7_readSpeakers wsX7_readSpeakers ({ frames := 2, cells := 0, slots := 0, locals := 48 }) (va_Pc [.ref (E.2.1 251)] (uB E M)) (va_Qi (fun r u => M = u ∧ r = 0) (uP E) (uA E)) 0 0 (uA E) := by
  have hin7 : ∀ w ∈ wsX70, w ∈ wsX7_readSpeakers := by decide +kernel
  refine u_start (cc := cX7_readSpeakers) (maxL := 6) (ret := (some .int)) hI (by decide) rfl (Nat.le_of_ble_eq_true rfl) ?_
  intro p_ e_ s_ m_ bl_ me_ c_ C hr hlocks h ls hl
  have hx := C.1.1
  have hb := C.1.2.1
  have hown : s_.vm.findClass RX7 = some m_.cls := C.1.2.2.2.1
  have hts := C.1.2.2.2.2
  have hl : lv_has ls 6 [(0, .ref (E.2.1 251))] := hl
  refine lv_iconst (v := 0) hx hb dX7_readSpeakers_0 (by decide) ?_
  refine lv_istore_n (lv' := [(1, .int 0), (0, .ref (E.2.1 251))]) hx hb dX7_readSpeakers_1 rfl hl (by decide) rfl (fun ls hl => ?_)
  refine lv_aload_n hx hb dX7_readSpeakers_2 rfl (lv_at hl 1 rfl) ?_
  refine ur_get C h 251 (by decide) (uc_251 E _) (Cn := RX7) (T := TX7) (N := 17) rfl hin7 4 (by decide) (by decide +kernel) rfl dX7_readSpeakers_3 ?_
  refine ur_eq (y := 1) hf ?_
  refine lv_if_ne (tgt := 210) hx hb dX7_readSpeakers_6 (by decide) (fun c_1 => ?_) (fun z => absurd z (by decide))
  refine lv_iload_n hx hb dX7_readSpeakers_210 rfl (lv_at hl 0 rfl) ?_
  exact ur_iret C h hr hlocks (⟨rfl, rfl⟩) dX7_readSpeakers_211
set_option maxHeartbeats 1000000 in
set_option maxRecDepth 100000 in
theorem k_X7_readWordsOf_f (l : Launch) (E : uE) (hI : uI E) (M : uM) (hf : M.1 251 4 = 1) : Met l yX7_readWordsOf wsX7_readWordsOf ({ frames := 1, cells := 0, slots := 0, locals := 25 }) (va_Pc [.ref (E.2.1 251)] (uB E M)) (va_Qi (fun r u => M = u ∧ r = 0) (uP E) (uA E)) 0 0 (uA E) := by
  have hin7 : ∀ w ∈ wsX70, w ∈ wsX7_readWordsOf := by decide +kernel
  refine u_start (cc := cX7_readWordsOf) (maxL := 4) (ret := (some .int)) hI (by decide) rfl (Nat.le_of_ble_eq_true rfl) ?_
  intro p_ e_ s_ m_ bl_ me_ c_ C hr hlocks h ls hl
  have hx := C.1.1
  have hb := C.1.2.1
  have hown : s_.vm.findClass RX7 = some m_.cls := C.1.2.2.2.1
  have hts := C.1.2.2.2.2
  have hl : lv_has ls 4 [(0, .ref (E.2.1 251))] := hl
  refine lv_iconst (v := 0) hx hb dX7_readWordsOf_0 (by decide) ?_
  refine lv_istore_n (lv' := [(1, .int 0), (0, .ref (E.2.1 251))]) hx hb dX7_readWordsOf_1 rfl hl (by decide) rfl (fun ls hl => ?_)
  refine lv_aload_n hx hb dX7_readWordsOf_2 rfl (lv_at hl 1 rfl) ?_
  refine ur_get C h 251 (by decide) (uc_251 E _) (Cn := RX7) (T := TX7) (N := 17) rfl hin7 4 (by decide) (by decide +kernel) rfl dX7_readWordsOf_3 ?_
  refine ur_eq (y := 1) hf ?_
  refine lv_if_ne (tgt := 157) hx hb dX7_readWordsOf_6 (by decide) (fun c_1 => ?_) (fun z => absurd z (by decide))
  refine lv_iload_n hx hb dX7_readWordsOf_157 rfl (lv_at hl 0 rfl) ?_
  exact ur_iret C h hr hlocks (⟨rfl, rfl⟩) dX7_readWordsOf_158
set_option maxHeartbeats 1000000 in
set_option maxRecDepth 100000 in
theorem k_X7_tongues (l : Launch) (E : uE) (hI : uI E) (M : uM) (ty : Nat) (hty : M.1 251 2 = nI ty) (hty90 : ty ≤ 90) (hlet : mLet (M.1 253) ty) : Met l yX7_tongues wsX7_tongues ({ frames := 3, cells := 0, slots := 0, locals := 73 }) (va_Pc [.ref (E.2.1 251)] (uB E M)) (va_Qi (fun r u => ∃ v, mFr M v ∧ if (fAll (tS (M.1 253) ty)).1 = true then (∀ i, i < (fSps (tS (M.1 253) ty) 2 0 6).2.2 → mDat (tS (M.1 253) ty) v i (2 + 9 * i)) ∧ (∀ i, i < (fWds (tS (M.1 253) ty) ((fSps (tS (M.1 253) ty) 2 0 6).2.1 + 1) 0 6).2.2 → v.1 255 i = nI (fW (tS (M.1 253) ty) (tWs (tS (M.1 253) ty) ((fSps (tS (M.1 253) ty) 2 0 6).2.1 + 1) i)).2) ∧ u = mTell (uSet v 251 2 0) (fSps (tS (M.1 253) ty) 2 0 6).2.2 (fWds (tS (M.1 253) ty) ((fSps (tS (M.1 253) ty) 2 0 6).2.1 + 1) 0 6).2.2 (tIx 0 (tS (M.1 253) ty (0))) ∧ r = nI (fSps (tS (M.1 253) ty) 2 0 6).2.2 else u = uSet v 251 2 0 ∧ r = (-20) - nI (tQ (M.1 253) ty (fAll (tS (M.1 253) ty)).2)) (uP E) (uA E)) 0 0 (uA E) := by
  have hin7 : ∀ w ∈ wsX70, w ∈ wsX7_tongues := by decide +kernel
  refine u_start (cc := cX7_tongues) (maxL := 6) (ret := (some .int)) hI (by decide) rfl (Nat.le_of_ble_eq_true rfl) ?_
  intro p_ e_ s_ m_ bl_ me_ c_ C hr hlocks h ls hl
  have hx := C.1.1
  have hb := C.1.2.1
  have hown : s_.vm.findClass RX7 = some m_.cls := C.1.2.2.2.1
  have hts := C.1.2.2.2.2
  have hl : lv_has ls 6 [(0, .ref (E.2.1 251))] := hl
  refine lv_aload_n hx hb dX7_tongues_0 rfl (lv_at hl 0 rfl) ?_
  refine lv_iconst (v := 0) hx hb dX7_tongues_1 (by decide) ?_
  refine ur_puti C h 251 (by decide) (uc_251 E _) (Cn := RX7) (T := TX7) (N := 17) rfl hin7 tyX7 tyX7_ok nmX7 3 (by decide) (by decide +kernel) rfl rfl rfl (Nat.le_of_ble_eq_true rfl) (us_251_3 E _ _) dX7_tongues_2 (fun M_1 H locs eM_1 h => ?_)
  refine lv_aload_n hx hb dX7_tongues_5 rfl (lv_at hl 0 rfl) ?_
  refine lv_iconst (v := 0) hx hb dX7_tongues_6 (by decide) ?_
  refine ur_puti C h 251 (by decide) (uc_251 E _) (Cn := RX7) (T := TX7) (N := 17) rfl hin7 tyX7 tyX7_ok nmX7 4 (by decide) (by decide +kernel) rfl (by rfl) rfl (Nat.le_of_ble_eq_true rfl) (us_251_4 E _ _) dX7_tongues_7 (fun M_2 H locs eM_2 h => ?_)
  have hf2 : M_2.1 251 4 = 0 := by rw [eM_2, eM_1]; rfl
  have hp2 : M_2.1 251 3 = nI (tN (M.1 253) ty (0)) := by rw [eM_2, eM_1]; rfl
  have hK2 : mFr M M_2 := mFr_trans (show mFr M M_1 from by rw [eM_1]; exact mFr_f (Or.inl rfl)) (show mFr M_1 M_2 from by rw [eM_2]; exact mFr_f (Or.inr rfl))
  refine lv_aload_n hx hb dX7_tongues_10 rfl (lv_at hl 0 rfl) ?_
  refine lv_iconst (v := 0) hx hb dX7_tongues_11 (by decide) ?_
  refine lv_bipush (v := 9) hx hb dX7_tongues_12 (by decide) ?_
  refine ur_callVi C h (k := 251) (As := [.int 0, .int 9]) (rest := []) (k_X7_digit_n l E hI M_2 0 9 ty ((hK2.2.1 2 (by decide) (by decide)).trans hty) hty90 (tN (M.1 253) ty (0)) hp2 (Nat.zero_le _) (0) (by rw [(hK2.1 253 (by decide) (by decide) (by decide))]; exact rfl) hf2) (cwV 2 hts gX7_tongues_X7_digit rfl rfl rfl (by decide +kernel) ⟨Nat.le_of_ble_eq_true rfl, Nat.le_of_ble_eq_true rfl⟩) (by decide) (uc_251 E _) (T := TX7) (N := 17) rfl rfl hl.1 rfl (Nat.le_of_ble_eq_true rfl) dX7_tongues_14 (fun r_3 M_4 H locs hw_4 h => ?_)
  rw [(hK2.1 253 (by decide) (by decide) (by decide))] at hw_4
  rcases Decidable.em ((0 : Int32).toInt ≤ ((tS (M.1 253) ty (0)) - 48).toInt ∧ ((tS (M.1 253) ty (0)) - 48).toInt ≤ (9 : Int32).toInt) with c_5 | c_5
  · skip
    rw [if_pos c_5] at hw_4
    obtain ⟨eM_4, er_3⟩ := hw_4
    have hkM_4 : mFr M_2 M_4 := by rw [eM_4]; exact mFr_f (Or.inl rfl)
    have h253M_4 : M_4.1 253 = M.1 253 := (hkM_4.1 253 (by decide) (by decide) (by decide)).trans (hK2.1 253 (by decide) (by decide) (by decide))
    have htyM_4 : M_4.1 251 2 = nI ty := (hkM_4.2.1 2 (by decide) (by decide)).trans ((hK2.2.1 2 (by decide) (by decide)).trans hty)
    have hKM_4 : mFr M M_4 := mFr_trans hK2 hkM_4
    have hfM_4 : M_4.1 251 4 = 0 := by rw [eM_4, u_set1, if_pos rfl, if_neg (by decide)]; exact hf2
    have hpM_4 : M_4.1 251 3 = nI (tN (M.1 253) ty (1)) := by rw [eM_4]; rfl
    have hg0 : 0 ≤ tIx 0 (tS (M.1 253) ty (0)) := (mS_dig hlet 0).1.1.mpr c_5
    have hear : r_3 = tIx 0 (tS (M.1 253) ty (0)) := er_3.trans ((mS_dig hlet 0).1.2 hg0).symm
    have hN1 : (tN (M.1 253) ty (1)) ≤ ty := t_lt (k := 0) (by decide) (by decide) hg0
    refine lv_istore_n (lv' := [(1, .int r_3), (0, .ref (E.2.1 251))]) hx hb dX7_tongues_17 rfl hl (by decide) rfl (fun ls hl => ?_)
    refine lv_aload_n hx hb dX7_tongues_18 rfl (lv_at hl 1 rfl) ?_
    refine lv_aload_n hx hb dX7_tongues_19 rfl (lv_at hl 1 rfl) ?_
    refine ur_get C h 251 (by decide) (uc_251 E _) (Cn := RX7) (T := TX7) (N := 17) rfl hin7 4 (by decide) (by decide +kernel) rfl dX7_tongues_20 ?_
    refine ur_eq (y := 0) hfM_4 ?_
    refine lv_if_ne (tgt := 39) hx hb dX7_tongues_23 (by decide) (fun z => absurd z (by decide)) (fun c_6 => ?_)
    refine lv_aload_n hx hb dX7_tongues_26 rfl (lv_at hl 1 rfl) ?_
    refine ur_callVi C h (k := 251) (As := []) (rest := [.ref (E.2.1 251)]) (k_X7_here l E hI M_4 ty htyM_4 hty90 (tN (M.1 253) ty (1)) hpM_4 hN1) (cwV 0 hts gX7_tongues_X7_here rfl rfl rfl (by decide +kernel) ⟨Nat.le_of_ble_eq_true rfl, Nat.le_of_ble_eq_true rfl⟩) (by decide) (uc_251 E _) (T := TX7) (N := 17) rfl rfl hl.1 rfl (Nat.le_of_ble_eq_true rfl) dX7_tongues_27 (fun r_7 M_8 H locs hw_8 h => ?_)
    obtain ⟨eM_8, er_7⟩ := hw_8
    rw [h253M_4] at eM_8 er_7
    rw [tAt_of rfl] at er_7
    rw [show tSk (M.1 253) ty (tN (M.1 253) ty (1)) = (tQ (M.1 253) ty (1)) from rfl] at eM_8
    have hfM_8 : M_8.1 251 4 = 0 := by rw [eM_8, u_set1, if_pos rfl, if_neg (by decide)]; exact hfM_4
    have hpM_8 : M_8.1 251 3 = nI (tQ (M.1 253) ty (1)) := by rw [eM_8]; rfl
    have h253M_8 : M_8.1 253 = M.1 253 := (show M_8.1 253 = M_4.1 253 from by rw [eM_8, u_set_far (by decide)]).trans h253M_4
    have htyM_8 : M_8.1 251 2 = nI ty := by rw [eM_8, u_set1, if_pos rfl, if_neg (by decide)]; exact htyM_4
    have hkM_8 : mFr M_4 M_8 := by rw [eM_8]; exact mFr_f (by decide)
    have hKM_8 : mFr M M_8 := mFr_trans hKM_4 hkM_8
    refine ur_eq (y := (tS (M.1 253) ty (1))) er_7 ?_
    refine lv_bipush (v := 59) hx hb dX7_tongues_30 (by decide) ?_
    refine lv_icmp_ne (tgt := 39) hx hb dX7_tongues_32 (by decide) (fun c_9 => ?_) (fun c_9 => ?_)
    · skip
      have hAf : (fAll (tS (M.1 253) ty)) = (false, 1) := (if_pos hg0).trans (if_neg (fun zq => c_9 ((mS_sep hlet (1)).2.mp zq)))
      refine lv_iconst (v := 0) hx hb dX7_tongues_39 (by decide) ?_
      refine ur_callVv C h (k := 251) (As := [.int 0]) (rest := []) (k_X7_must_n l E hI M_8 hfM_8 (tQ (M.1 253) ty (1)) hpM_8) (cwV 1 hts gX7_tongues_X7_must rfl rfl rfl (by decide +kernel) ⟨Nat.le_of_ble_eq_true rfl, Nat.le_of_ble_eq_true rfl⟩) (by decide) (uc_251 E _) (T := TX7) (N := 17) rfl rfl hl.1 rfl (Nat.le_of_ble_eq_true rfl) dX7_tongues_40 (fun M_11 H locs hw_11 h => ?_)
      have eM_11 := hw_11
      have hfM_11 : M_11.1 251 4 = 1 := by rw [eM_11]; rfl
      have hpM_11 : M_11.1 251 3 = nI (tQ (M.1 253) ty (1)) := by rw [eM_11, u_set1, if_pos rfl, if_neg (by decide)]; exact hpM_8
      have hkM_11 : mFr M_8 M_11 := by rw [eM_11]; exact mFr_f (by decide)
      have hKM_11 : mFr M M_11 := mFr_trans hKM_8 hkM_11
      refine lv_aload_n hx hb dX7_tongues_43 rfl (lv_at hl 1 rfl) ?_
      refine ur_callVi C h (k := 251) (As := []) (rest := []) (k_X7_readSpeakers_f l E hI M_11 hfM_11) (cwV 0 hts gX7_tongues_X7_readSpeakers rfl rfl rfl (by decide +kernel) ⟨Nat.le_of_ble_eq_true rfl, Nat.le_of_ble_eq_true rfl⟩) (by decide) (uc_251 E _) (T := TX7) (N := 17) rfl rfl hl.1 rfl (Nat.le_of_ble_eq_true rfl) dX7_tongues_44 (fun r_12 M_13 H locs hw_13 h => ?_)
      obtain ⟨hu, er_12⟩ := hw_13
      subst hu
      refine lv_istore_n (lv' := [(2, .int r_12), (1, .int r_3), (0, .ref (E.2.1 251))]) hx hb dX7_tongues_47 rfl hl (by decide) rfl (fun ls hl => ?_)
      refine lv_aload_n hx hb dX7_tongues_48 rfl (lv_at hl 2 rfl) ?_
      refine lv_aload_n hx hb dX7_tongues_49 rfl (lv_at hl 2 rfl) ?_
      refine ur_get C h 251 (by decide) (uc_251 E _) (Cn := RX7) (T := TX7) (N := 17) rfl hin7 4 (by decide) (by decide +kernel) rfl dX7_tongues_50 ?_
      refine ur_eq (y := 1) hfM_11 ?_
      refine lv_if_ne (tgt := 69) hx hb dX7_tongues_53 (by decide) (fun c_14 => ?_) (fun z => absurd z (by decide))
      refine lv_iconst (v := 0) hx hb dX7_tongues_69 (by decide) ?_
      refine ur_callVv C h (k := 251) (As := [.int 0]) (rest := []) (k_X7_must_f l E hI M_11 0 hfM_11 (tQ (M.1 253) ty (1)) hpM_11) (cwV 1 hts gX7_tongues_X7_must rfl rfl rfl (by decide +kernel) ⟨Nat.le_of_ble_eq_true rfl, Nat.le_of_ble_eq_true rfl⟩) (by decide) (uc_251 E _) (T := TX7) (N := 17) rfl rfl hl.1 rfl (Nat.le_of_ble_eq_true rfl) dX7_tongues_70 (fun M_16 H locs hw_16 h => ?_)
      have hu := hw_16
      subst hu
      refine lv_aload_n hx hb dX7_tongues_73 rfl (lv_at hl 2 rfl) ?_
      refine ur_callVi C h (k := 251) (As := []) (rest := []) (k_X7_readWordsOf_f l E hI M_11 hfM_11) (cwV 0 hts gX7_tongues_X7_readWordsOf rfl rfl rfl (by decide +kernel) ⟨Nat.le_of_ble_eq_true rfl, Nat.le_of_ble_eq_true rfl⟩) (by decide) (uc_251 E _) (T := TX7) (N := 17) rfl rfl hl.1 rfl (Nat.le_of_ble_eq_true rfl) dX7_tongues_74 (fun r_17 M_18 H locs hw_18 h => ?_)
      obtain ⟨hu, er_17⟩ := hw_18
      subst hu
      refine lv_istore_n (lv' := [(3, .int r_17), (2, .int r_12), (1, .int r_3), (0, .ref (E.2.1 251))]) hx hb dX7_tongues_77 rfl hl (by decide) rfl (fun ls hl => ?_)
      refine lv_aload_n hx hb dX7_tongues_78 rfl (lv_at hl 3 rfl) ?_
      refine lv_aload_n hx hb dX7_tongues_79 rfl (lv_at hl 3 rfl) ?_
      refine ur_get C h 251 (by decide) (uc_251 E _) (Cn := RX7) (T := TX7) (N := 17) rfl hin7 4 (by decide) (by decide +kernel) rfl dX7_tongues_80 ?_
      refine ur_eq (y := 1) hfM_11 ?_
      refine lv_if_ne (tgt := 93) hx hb dX7_tongues_83 (by decide) (fun c_19 => ?_) (fun z => absurd z (by decide))
      refine lv_iconst (v := 1) hx hb dX7_tongues_93 (by decide) ?_
      refine lv_goto (tgt := 98) hx hb dX7_tongues_94 (by decide) ?_
      refine ur_puti C h 251 (by decide) (uc_251 E _) (Cn := RX7) (T := TX7) (N := 17) rfl hin7 tyX7 tyX7_ok nmX7 4 (by decide) (by decide +kernel) rfl (by rfl) rfl (Nat.le_of_ble_eq_true rfl) (us_251_4 E _ _) dX7_tongues_98 (fun M_20 H locs eM_20 h => ?_)
      have hfM_20 : M_20.1 251 4 = 1 := by rw [eM_20]; rfl
      have hpM_20 : M_20.1 251 3 = nI (tQ (M.1 253) ty (1)) := by rw [eM_20, u_set1, if_pos rfl, if_neg (by decide)]; exact hpM_11
      have hKM_20 : mFr M M_20 := mFr_trans hKM_11 (show mFr M_11 M_20 from by rw [eM_20]; exact mFr_f (Or.inr rfl))
      refine lv_aload_n hx hb dX7_tongues_101 rfl (lv_at hl 3 rfl) ?_
      refine lv_iconst (v := 0) hx hb dX7_tongues_102 (by decide) ?_
      refine ur_puti C h 251 (by decide) (uc_251 E _) (Cn := RX7) (T := TX7) (N := 17) rfl hin7 tyX7 tyX7_ok nmX7 2 (by decide) (by decide +kernel) rfl rfl rfl (Nat.le_of_ble_eq_true rfl) (us_251_2 E _ _) dX7_tongues_103 (fun M_21 H locs eM_21 h => ?_)
      have hfM_21 : M_21.1 251 4 = 1 := by rw [eM_21, u_set1, if_pos rfl, if_neg (by decide)]; exact hfM_20
      refine lv_aload_n hx hb dX7_tongues_106 rfl (lv_at hl 3 rfl) ?_
      refine ur_get C h 251 (by decide) (uc_251 E _) (Cn := RX7) (T := TX7) (N := 17) rfl hin7 4 (by decide) (by decide +kernel) rfl dX7_tongues_107 ?_
      refine ur_eq (y := nI 1) (by rw [eM_21, u_set1, if_pos rfl, if_neg (by omega), eM_20, u_set1, if_pos rfl, if_pos rfl]; try rfl) ?_
      refine ur_eq (y := 1) rfl ?_
      refine lv_if_eq (tgt := 121) hx hb dX7_tongues_110 (by decide) (fun z => absurd z (by decide)) (fun c_22 => ?_)
      refine lv_bipush (v := (-20)) hx hb dX7_tongues_113 (by decide) ?_
      refine lv_aload_n hx hb dX7_tongues_115 rfl (lv_at hl 3 rfl) ?_
      refine ur_get C h 251 (by decide) (uc_251 E _) (Cn := RX7) (T := TX7) (N := 17) rfl hin7 3 (by decide) (by decide +kernel) rfl dX7_tongues_116 ?_
      refine ur_eq (y := nI (tQ (M.1 253) ty (1))) ((by rw [eM_21, u_set1, if_pos rfl, if_neg (by decide)]; exact hpM_20)) ?_
      refine lv_isub hx hb dX7_tongues_119 ?_
      exact ur_iret C h hr hlocks (⟨M_20, hKM_20, by rw [hAf, if_neg Bool.false_ne_true]; exact ⟨eM_21, rfl⟩⟩) dX7_tongues_120
    · skip
      have hg1 : 0 ≤ tIx 1 (tS (M.1 253) ty (1)) := (mS_sep hlet (1)).2.mpr c_9
      refine lv_iconst (v := 1) hx hb dX7_tongues_35 (by decide) ?_
      refine lv_goto (tgt := 40) hx hb dX7_tongues_36 (by decide) ?_
      refine ur_callVv C h (k := 251) (As := [.int 1]) (rest := []) (k_X7_must_t l E hI M_8 hfM_8 (tQ (M.1 253) ty (1)) hpM_8) (cwV 1 hts gX7_tongues_X7_must rfl rfl rfl (by decide +kernel) ⟨Nat.le_of_ble_eq_true rfl, Nat.le_of_ble_eq_true rfl⟩) (by decide) (uc_251 E _) (T := TX7) (N := 17) rfl rfl hl.1 rfl (Nat.le_of_ble_eq_true rfl) dX7_tongues_40 (fun M_24 H locs hw_24 h => ?_)
      have eM_24 := hw_24
      have hfM_24 : M_24.1 251 4 = 0 := by rw [eM_24, u_set1, if_pos rfl, if_neg (by decide)]; exact hfM_8
      have hpM_24 : M_24.1 251 3 = nI ((tQ (M.1 253) ty (1)) + 1) := by rw [eM_24]; rfl
      have hkM_24 : mFr M_8 M_24 := by rw [eM_24]; exact mFr_f (by decide)
      have hKM_24 : mFr M M_24 := mFr_trans hKM_8 hkM_24
      have hNM_24 : (tN (M.1 253) ty (1 + 1)) ≤ ty := t_lt (k := 1) (by decide) (by decide) hg1
      have hpqM_24 : M_24.1 251 3 = nI (tN (M.1 253) ty (1 + 1)) := hpM_24
      have h253M_24 : M_24.1 253 = M.1 253 := hKM_24.1 253 (by decide) (by decide) (by decide)
      have htyM_24 : M_24.1 251 2 = nI ty := (hKM_24.2.1 2 (by decide) (by decide)).trans hty
      refine lv_aload_n hx hb dX7_tongues_43 rfl (lv_at hl 1 rfl) ?_
      refine ur_callVi C h (k := 251) (As := []) (rest := []) (k_X7_readSpeakers l E hI M_24 ty htyM_24 hty90 (tN (M.1 253) ty (2)) hpqM_24 hNM_24 (2) (by rw [h253M_24]; exact rfl) hfM_24 (by rw [h253M_24]; exact hlet) (by rw [h253M_24]; exact hNM_24)) (cwV 0 hts gX7_tongues_X7_readSpeakers rfl rfl rfl (by decide +kernel) ⟨Nat.le_of_ble_eq_true rfl, Nat.le_of_ble_eq_true rfl⟩) (by decide) (uc_251 E _) (T := TX7) (N := 17) rfl rfl hl.1 rfl (Nat.le_of_ble_eq_true rfl) dX7_tongues_44 (fun r_25 M_26 H locs hw_26 h => ?_)
      rw [h253M_24] at hw_26
      obtain ⟨hfrM_26, hothM_26, hqM_26⟩ := hw_26
      unfold mSpsPost at hqM_26
      rcases Decidable.em ((fSps (tS (M.1 253) ty) 2 0 6).1 = true) with c_27 | c_27
      · skip
        rw [if_pos c_27] at hqM_26
        obtain ⟨hfS, hpS, hNS, hrS, hdS⟩ := hqM_26
        have hkM_26 : mFr M_24 M_26 := hfrM_26
        have h253M_26 : M_26.1 253 = M.1 253 := (hkM_26.1 253 (by decide) (by decide) (by decide)).trans h253M_24
        have htyM_26 : M_26.1 251 2 = nI ty := (hkM_26.2.1 2 (by decide) (by decide)).trans htyM_24
        have hKM_26 : mFr M M_26 := mFr_trans hKM_24 hkM_26
        have hcS := c_27
        refine ur_eq (y := nI (fSps (tS (M.1 253) ty) 2 0 6).2.2) hrS ?_
        refine lv_istore_n (lv' := [(2, .int (nI ((fSps (tS (M.1 253) ty) 2 0 6).2.2))), (1, .int r_3), (0, .ref (E.2.1 251))]) hx hb dX7_tongues_47 rfl hl (by decide) rfl (fun ls hl => ?_)
        refine lv_aload_n hx hb dX7_tongues_48 rfl (lv_at hl 2 rfl) ?_
        refine lv_aload_n hx hb dX7_tongues_49 rfl (lv_at hl 2 rfl) ?_
        refine ur_get C h 251 (by decide) (uc_251 E _) (Cn := RX7) (T := TX7) (N := 17) rfl hin7 4 (by decide) (by decide +kernel) rfl dX7_tongues_50 ?_
        refine ur_eq (y := 0) hfS ?_
        refine lv_if_ne (tgt := 69) hx hb dX7_tongues_53 (by decide) (fun z => absurd z (by decide)) (fun c_28 => ?_)
        refine lv_aload_n hx hb dX7_tongues_56 rfl (lv_at hl 2 rfl) ?_
        refine ur_callVi C h (k := 251) (As := []) (rest := [.ref (E.2.1 251)]) (k_X7_here l E hI M_26 ty htyM_26 hty90 (tQ (M.1 253) ty ((fSps (tS (M.1 253) ty) 2 0 6).2.1)) hpS (tQ_le hNS)) (cwV 0 hts gX7_tongues_X7_here rfl rfl rfl (by decide +kernel) ⟨Nat.le_of_ble_eq_true rfl, Nat.le_of_ble_eq_true rfl⟩) (by decide) (uc_251 E _) (T := TX7) (N := 17) rfl rfl hl.1 rfl (Nat.le_of_ble_eq_true rfl) dX7_tongues_57 (fun r_29 M_30 H locs hw_30 h => ?_)
        obtain ⟨eM_30, er_29⟩ := hw_30
        rw [h253M_26] at eM_30 er_29
        rw [tAt_of tQ_sk] at er_29
        rw [show tSk (M.1 253) ty (tQ (M.1 253) ty ((fSps (tS (M.1 253) ty) 2 0 6).2.1)) = (tQ (M.1 253) ty ((fSps (tS (M.1 253) ty) 2 0 6).2.1)) from tQ_sk] at eM_30
        have hfM_30 : M_30.1 251 4 = 0 := by rw [eM_30, u_set1, if_pos rfl, if_neg (by decide)]; exact hfS
        have hpM_30 : M_30.1 251 3 = nI (tQ (M.1 253) ty ((fSps (tS (M.1 253) ty) 2 0 6).2.1)) := by rw [eM_30]; rfl
        have h253M_30 : M_30.1 253 = M.1 253 := (show M_30.1 253 = M_26.1 253 from by rw [eM_30, u_set_far (by decide)]).trans h253M_26
        have htyM_30 : M_30.1 251 2 = nI ty := by rw [eM_30, u_set1, if_pos rfl, if_neg (by decide)]; exact htyM_26
        have hkM_30 : mFr M_26 M_30 := by rw [eM_30]; exact mFr_f (by decide)
        have hKM_30 : mFr M M_30 := mFr_trans hKM_26 hkM_30
        refine ur_eq (y := (tS (M.1 253) ty ((fSps (tS (M.1 253) ty) 2 0 6).2.1))) er_29 ?_
        refine lv_bipush (v := 59) hx hb dX7_tongues_60 (by decide) ?_
        refine lv_icmp_ne (tgt := 69) hx hb dX7_tongues_62 (by decide) (fun c_31 => ?_) (fun c_31 => ?_)
        · skip
          have hAf : (fAll (tS (M.1 253) ty)) = (false, (fSps (tS (M.1 253) ty) 2 0 6).2.1) := (if_pos hg0).trans ((if_pos hg1).trans (if_neg (fun zz => (fun zq => c_31 ((mS_sep hlet ((fSps (tS (M.1 253) ty) 2 0 6).2.1)).2.mp zq)) zz.2)))
          refine lv_iconst (v := 0) hx hb dX7_tongues_69 (by decide) ?_
          refine ur_callVv C h (k := 251) (As := [.int 0]) (rest := []) (k_X7_must_n l E hI M_30 hfM_30 (tQ (M.1 253) ty ((fSps (tS (M.1 253) ty) 2 0 6).2.1)) hpM_30) (cwV 1 hts gX7_tongues_X7_must rfl rfl rfl (by decide +kernel) ⟨Nat.le_of_ble_eq_true rfl, Nat.le_of_ble_eq_true rfl⟩) (by decide) (uc_251 E _) (T := TX7) (N := 17) rfl rfl hl.1 rfl (Nat.le_of_ble_eq_true rfl) dX7_tongues_70 (fun M_33 H locs hw_33 h => ?_)
          have eM_33 := hw_33
          have hfM_33 : M_33.1 251 4 = 1 := by rw [eM_33]; rfl
          have hpM_33 : M_33.1 251 3 = nI (tQ (M.1 253) ty ((fSps (tS (M.1 253) ty) 2 0 6).2.1)) := by rw [eM_33, u_set1, if_pos rfl, if_neg (by decide)]; exact hpM_30
          have hkM_33 : mFr M_30 M_33 := by rw [eM_33]; exact mFr_f (by decide)
          have hKM_33 : mFr M M_33 := mFr_trans hKM_30 hkM_33
          refine lv_aload_n hx hb dX7_tongues_73 rfl (lv_at hl 2 rfl) ?_
          refine ur_callVi C h (k := 251) (As := []) (rest := []) (k_X7_readWordsOf_f l E hI M_33 hfM_33) (cwV 0 hts gX7_tongues_X7_readWordsOf rfl rfl rfl (by decide +kernel) ⟨Nat.le_of_ble_eq_true rfl, Nat.le_of_ble_eq_true rfl⟩) (by decide) (uc_251 E _) (T := TX7) (N := 17) rfl rfl hl.1 rfl (Nat.le_of_ble_eq_true rfl) dX7_tongues_74 (fun r_34 M_35 H locs hw_35 h => ?_)
          obtain ⟨hu, er_34⟩ := hw_35
          subst hu
          refine lv_istore_n (lv' := [(3, .int r_34), (2, .int (nI ((fSps (tS (M.1 253) ty) 2 0 6).2.2))), (1, .int r_3), (0, .ref (E.2.1 251))]) hx hb dX7_tongues_77 rfl hl (by decide) rfl (fun ls hl => ?_)
          refine lv_aload_n hx hb dX7_tongues_78 rfl (lv_at hl 3 rfl) ?_
          refine lv_aload_n hx hb dX7_tongues_79 rfl (lv_at hl 3 rfl) ?_
          refine ur_get C h 251 (by decide) (uc_251 E _) (Cn := RX7) (T := TX7) (N := 17) rfl hin7 4 (by decide) (by decide +kernel) rfl dX7_tongues_80 ?_
          refine ur_eq (y := 1) hfM_33 ?_
          refine lv_if_ne (tgt := 93) hx hb dX7_tongues_83 (by decide) (fun c_36 => ?_) (fun z => absurd z (by decide))
          refine lv_iconst (v := 1) hx hb dX7_tongues_93 (by decide) ?_
          refine lv_goto (tgt := 98) hx hb dX7_tongues_94 (by decide) ?_
          refine ur_puti C h 251 (by decide) (uc_251 E _) (Cn := RX7) (T := TX7) (N := 17) rfl hin7 tyX7 tyX7_ok nmX7 4 (by decide) (by decide +kernel) rfl (by rfl) rfl (Nat.le_of_ble_eq_true rfl) (us_251_4 E _ _) dX7_tongues_98 (fun M_37 H locs eM_37 h => ?_)
          have hfM_37 : M_37.1 251 4 = 1 := by rw [eM_37]; rfl
          have hpM_37 : M_37.1 251 3 = nI (tQ (M.1 253) ty ((fSps (tS (M.1 253) ty) 2 0 6).2.1)) := by rw [eM_37, u_set1, if_pos rfl, if_neg (by decide)]; exact hpM_33
          have hKM_37 : mFr M M_37 := mFr_trans hKM_33 (show mFr M_33 M_37 from by rw [eM_37]; exact mFr_f (Or.inr rfl))
          refine lv_aload_n hx hb dX7_tongues_101 rfl (lv_at hl 3 rfl) ?_
          refine lv_iconst (v := 0) hx hb dX7_tongues_102 (by decide) ?_
          refine ur_puti C h 251 (by decide) (uc_251 E _) (Cn := RX7) (T := TX7) (N := 17) rfl hin7 tyX7 tyX7_ok nmX7 2 (by decide) (by decide +kernel) rfl rfl rfl (Nat.le_of_ble_eq_true rfl) (us_251_2 E _ _) dX7_tongues_103 (fun M_38 H locs eM_38 h => ?_)
          have hfM_38 : M_38.1 251 4 = 1 := by rw [eM_38, u_set1, if_pos rfl, if_neg (by decide)]; exact hfM_37
          refine lv_aload_n hx hb dX7_tongues_106 rfl (lv_at hl 3 rfl) ?_
          refine ur_get C h 251 (by decide) (uc_251 E _) (Cn := RX7) (T := TX7) (N := 17) rfl hin7 4 (by decide) (by decide +kernel) rfl dX7_tongues_107 ?_
          refine ur_eq (y := nI 1) (by rw [eM_38, u_set1, if_pos rfl, if_neg (by omega), eM_37, u_set1, if_pos rfl, if_pos rfl]; try rfl) ?_
          refine ur_eq (y := 1) rfl ?_
          refine lv_if_eq (tgt := 121) hx hb dX7_tongues_110 (by decide) (fun z => absurd z (by decide)) (fun c_39 => ?_)
          refine lv_bipush (v := (-20)) hx hb dX7_tongues_113 (by decide) ?_
          refine lv_aload_n hx hb dX7_tongues_115 rfl (lv_at hl 3 rfl) ?_
          refine ur_get C h 251 (by decide) (uc_251 E _) (Cn := RX7) (T := TX7) (N := 17) rfl hin7 3 (by decide) (by decide +kernel) rfl dX7_tongues_116 ?_
          refine ur_eq (y := nI (tQ (M.1 253) ty ((fSps (tS (M.1 253) ty) 2 0 6).2.1))) ((by rw [eM_38, u_set1, if_pos rfl, if_neg (by decide)]; exact hpM_37)) ?_
          refine lv_isub hx hb dX7_tongues_119 ?_
          exact ur_iret C h hr hlocks (⟨M_37, hKM_37, by rw [hAf, if_neg Bool.false_ne_true]; exact ⟨eM_38, rfl⟩⟩) dX7_tongues_120
        · skip
          have hgA : 0 ≤ tIx 1 (tS (M.1 253) ty ((fSps (tS (M.1 253) ty) 2 0 6).2.1)) := (mS_sep hlet ((fSps (tS (M.1 253) ty) 2 0 6).2.1)).2.mpr c_31
          refine lv_iconst (v := 1) hx hb dX7_tongues_65 (by decide) ?_
          refine lv_goto (tgt := 70) hx hb dX7_tongues_66 (by decide) ?_
          refine ur_callVv C h (k := 251) (As := [.int 1]) (rest := []) (k_X7_must_t l E hI M_30 hfM_30 (tQ (M.1 253) ty ((fSps (tS (M.1 253) ty) 2 0 6).2.1)) hpM_30) (cwV 1 hts gX7_tongues_X7_must rfl rfl rfl (by decide +kernel) ⟨Nat.le_of_ble_eq_true rfl, Nat.le_of_ble_eq_true rfl⟩) (by decide) (uc_251 E _) (T := TX7) (N := 17) rfl rfl hl.1 rfl (Nat.le_of_ble_eq_true rfl) dX7_tongues_70 (fun M_41 H locs hw_41 h => ?_)
          have eM_41 := hw_41
          have hfM_41 : M_41.1 251 4 = 0 := by rw [eM_41, u_set1, if_pos rfl, if_neg (by decide)]; exact hfM_30
          have hpM_41 : M_41.1 251 3 = nI ((tQ (M.1 253) ty ((fSps (tS (M.1 253) ty) 2 0 6).2.1)) + 1) := by rw [eM_41]; rfl
          have hkM_41 : mFr M_30 M_41 := by rw [eM_41]; exact mFr_f (by decide)
          have hKM_41 : mFr M M_41 := mFr_trans hKM_30 hkM_41
          have hNM_41 : (tN (M.1 253) ty ((fSps (tS (M.1 253) ty) 2 0 6).2.1 + 1)) ≤ ty := t_lt (k := 1) (by decide) (by decide) hgA
          have hpqM_41 : M_41.1 251 3 = nI (tN (M.1 253) ty ((fSps (tS (M.1 253) ty) 2 0 6).2.1 + 1)) := hpM_41
          have h253M_41 : M_41.1 253 = M.1 253 := hKM_41.1 253 (by decide) (by decide) (by decide)
          have htyM_41 : M_41.1 251 2 = nI ty := (hKM_41.2.1 2 (by decide) (by decide)).trans hty
          refine lv_aload_n hx hb dX7_tongues_73 rfl (lv_at hl 2 rfl) ?_
          refine ur_callVi C h (k := 251) (As := []) (rest := []) (k_X7_readWordsOf l E hI M_41 ty htyM_41 hty90 (tN (M.1 253) ty ((fSps (tS (M.1 253) ty) 2 0 6).2.1 + 1)) hpqM_41 hNM_41 ((fSps (tS (M.1 253) ty) 2 0 6).2.1 + 1) (by rw [h253M_41]; exact rfl) hfM_41 (by rw [h253M_41]; exact hlet) (by rw [h253M_41]; exact hNM_41)) (cwV 0 hts gX7_tongues_X7_readWordsOf rfl rfl rfl (by decide +kernel) ⟨Nat.le_of_ble_eq_true rfl, Nat.le_of_ble_eq_true rfl⟩) (by decide) (uc_251 E _) (T := TX7) (N := 17) rfl rfl hl.1 rfl (Nat.le_of_ble_eq_true rfl) dX7_tongues_74 (fun r_42 M_43 H locs hw_43 h => ?_)
          rw [h253M_41] at hw_43
          obtain ⟨hfrM_43, hothM_43, hqM_43⟩ := hw_43
          unfold mWdsPost at hqM_43
          rcases Decidable.em ((fWds (tS (M.1 253) ty) ((fSps (tS (M.1 253) ty) 2 0 6).2.1 + 1) 0 6).1 = true) with c_44 | c_44
          · skip
            rw [if_pos c_44] at hqM_43
            obtain ⟨hfW, hpW, hNW, hrW, hdW⟩ := hqM_43
            have hkM_43 : mFr M_41 M_43 := hfrM_43
            have h253M_43 : M_43.1 253 = M.1 253 := (hkM_43.1 253 (by decide) (by decide) (by decide)).trans h253M_41
            have htyM_43 : M_43.1 251 2 = nI ty := (hkM_43.2.1 2 (by decide) (by decide)).trans htyM_41
            have hKM_43 : mFr M M_43 := mFr_trans hKM_41 hkM_43
            have hcW := c_44
            refine ur_eq (y := nI (fWds (tS (M.1 253) ty) ((fSps (tS (M.1 253) ty) 2 0 6).2.1 + 1) 0 6).2.2) hrW ?_
            refine lv_istore_n (lv' := [(3, .int (nI ((fWds (tS (M.1 253) ty) ((fSps (tS (M.1 253) ty) 2 0 6).2.1 + 1) 0 6).2.2))), (2, .int (nI ((fSps (tS (M.1 253) ty) 2 0 6).2.2))), (1, .int r_3), (0, .ref (E.2.1 251))]) hx hb dX7_tongues_77 rfl hl (by decide) rfl (fun ls hl => ?_)
            refine lv_aload_n hx hb dX7_tongues_78 rfl (lv_at hl 3 rfl) ?_
            refine lv_aload_n hx hb dX7_tongues_79 rfl (lv_at hl 3 rfl) ?_
            refine ur_get C h 251 (by decide) (uc_251 E _) (Cn := RX7) (T := TX7) (N := 17) rfl hin7 4 (by decide) (by decide +kernel) rfl dX7_tongues_80 ?_
            refine ur_eq (y := 0) hfW ?_
            refine lv_if_ne (tgt := 93) hx hb dX7_tongues_83 (by decide) (fun z => absurd z (by decide)) (fun c_45 => ?_)
            refine lv_aload_n hx hb dX7_tongues_86 rfl (lv_at hl 3 rfl) ?_
            refine ur_callVi C h (k := 251) (As := []) (rest := [.ref (E.2.1 251)]) (k_X7_here l E hI M_43 ty htyM_43 hty90 (tQ (M.1 253) ty ((fWds (tS (M.1 253) ty) ((fSps (tS (M.1 253) ty) 2 0 6).2.1 + 1) 0 6).2.1)) hpW (tQ_le hNW)) (cwV 0 hts gX7_tongues_X7_here rfl rfl rfl (by decide +kernel) ⟨Nat.le_of_ble_eq_true rfl, Nat.le_of_ble_eq_true rfl⟩) (by decide) (uc_251 E _) (T := TX7) (N := 17) rfl rfl hl.1 rfl (Nat.le_of_ble_eq_true rfl) dX7_tongues_87 (fun r_46 M_47 H locs hw_47 h => ?_)
            obtain ⟨eM_47, er_46⟩ := hw_47
            rw [h253M_43] at eM_47 er_46
            rw [tAt_of tQ_sk] at er_46
            rw [show tSk (M.1 253) ty (tQ (M.1 253) ty ((fWds (tS (M.1 253) ty) ((fSps (tS (M.1 253) ty) 2 0 6).2.1 + 1) 0 6).2.1)) = (tQ (M.1 253) ty ((fWds (tS (M.1 253) ty) ((fSps (tS (M.1 253) ty) 2 0 6).2.1 + 1) 0 6).2.1)) from tQ_sk] at eM_47
            have hfM_47 : M_47.1 251 4 = 0 := by rw [eM_47, u_set1, if_pos rfl, if_neg (by decide)]; exact hfW
            have hpM_47 : M_47.1 251 3 = nI (tQ (M.1 253) ty ((fWds (tS (M.1 253) ty) ((fSps (tS (M.1 253) ty) 2 0 6).2.1 + 1) 0 6).2.1)) := by rw [eM_47]; rfl
            have h253M_47 : M_47.1 253 = M.1 253 := (show M_47.1 253 = M_43.1 253 from by rw [eM_47, u_set_far (by decide)]).trans h253M_43
            have htyM_47 : M_47.1 251 2 = nI ty := by rw [eM_47, u_set1, if_pos rfl, if_neg (by decide)]; exact htyM_43
            have hkM_47 : mFr M_43 M_47 := by rw [eM_47]; exact mFr_f (by decide)
            have hKM_47 : mFr M M_47 := mFr_trans hKM_43 hkM_47
            refine ur_eq (y := (tS (M.1 253) ty ((fWds (tS (M.1 253) ty) ((fSps (tS (M.1 253) ty) 2 0 6).2.1 + 1) 0 6).2.1))) er_46 ?_
            refine lv_if_eq (tgt := 97) hx hb dX7_tongues_90 (by decide) (fun c_48 => ?_) (fun c_48 => ?_)
            · skip
              have hAt : (fAll (tS (M.1 253) ty)) = (true, (fWds (tS (M.1 253) ty) ((fSps (tS (M.1 253) ty) 2 0 6).2.1 + 1) 0 6).2.1) := (if_pos hg0).trans ((if_pos hg1).trans ((if_pos ⟨hcS, hgA⟩).trans (if_pos ⟨hcW, c_48⟩)))
              refine lv_iconst (v := 0) hx hb dX7_tongues_97 (by decide) ?_
              refine ur_puti C h 251 (by decide) (uc_251 E _) (Cn := RX7) (T := TX7) (N := 17) rfl hin7 tyX7 tyX7_ok nmX7 4 (by decide) (by decide +kernel) rfl (by rfl) rfl (Nat.le_of_ble_eq_true rfl) (us_251_4 E _ _) dX7_tongues_98 (fun M_49 H locs eM_49 h => ?_)
              have hfM_49 : M_49.1 251 4 = 0 := by rw [eM_49]; rfl
              have hpM_49 : M_49.1 251 3 = nI (tQ (M.1 253) ty ((fWds (tS (M.1 253) ty) ((fSps (tS (M.1 253) ty) 2 0 6).2.1 + 1) 0 6).2.1)) := by rw [eM_49, u_set1, if_pos rfl, if_neg (by decide)]; exact hpM_47
              have hKM_49 : mFr M M_49 := mFr_trans hKM_47 (show mFr M_47 M_49 from by rw [eM_49]; exact mFr_f (Or.inr rfl))
              refine lv_aload_n hx hb dX7_tongues_101 rfl (lv_at hl 3 rfl) ?_
              refine lv_iconst (v := 0) hx hb dX7_tongues_102 (by decide) ?_
              refine ur_puti C h 251 (by decide) (uc_251 E _) (Cn := RX7) (T := TX7) (N := 17) rfl hin7 tyX7 tyX7_ok nmX7 2 (by decide) (by decide +kernel) rfl rfl rfl (Nat.le_of_ble_eq_true rfl) (us_251_2 E _ _) dX7_tongues_103 (fun M_50 H locs eM_50 h => ?_)
              have hfM_50 : M_50.1 251 4 = 0 := by rw [eM_50, u_set1, if_pos rfl, if_neg (by decide)]; exact hfM_49
              refine lv_aload_n hx hb dX7_tongues_106 rfl (lv_at hl 3 rfl) ?_
              refine ur_get C h 251 (by decide) (uc_251 E _) (Cn := RX7) (T := TX7) (N := 17) rfl hin7 4 (by decide) (by decide +kernel) rfl dX7_tongues_107 ?_
              refine ur_eq (y := nI 0) (by rw [eM_50, u_set1, if_pos rfl, if_neg (by omega), eM_49, u_set1, if_pos rfl, if_pos rfl]; try rfl) ?_
              refine ur_eq (y := 0) rfl ?_
              refine lv_if_eq (tgt := 121) hx hb dX7_tongues_110 (by decide) (fun c_51 => ?_) (fun z => absurd z (by decide))
              have h254s : M_41.1 254 = M_26.1 254 := by rw [eM_41, u_set_far (by decide), eM_30, u_set_far (by decide)]
              have hdS0 : ∀ i, i < (fSps (tS (M.1 253) ty) 2 0 6).2.2 → mDat (tS (M.1 253) ty) M_41 i (2 + 9 * i) := fun i hi => by unfold mDat; rw [h254s]; exact hdS i hi
              refine lv_aload_n hx hb dX7_tongues_121 rfl (lv_at hl 3 rfl) ?_
              refine ur_get C h 251 (by decide) (uc_251 E _) (Cn := RX7) (T := TX7) (N := 17) rfl hin7 0 (by decide) (by decide +kernel) rfl dX7_tongues_122 ?_
              refine lv_iconst (v := 0) hx hb dX7_tongues_125 (by decide) ?_
              refine lv_iconst (v := 0) hx hb dX7_tongues_126 (by decide) ?_
              refine ur_iast C h 252 (by decide) (uc_252 E) (0) (by decide) (by decide) dX7_tongues_127 (fun M_52 H locs eM_52 h => ?_)
              refine lv_aload_n hx hb dX7_tongues_128 rfl (lv_at hl 3 rfl) ?_
              refine ur_get C h 251 (by decide) (uc_251 E _) (Cn := RX7) (T := TX7) (N := 17) rfl hin7 0 (by decide) (by decide +kernel) rfl dX7_tongues_129 ?_
              refine lv_iconst (v := 1) hx hb dX7_tongues_132 (by decide) ?_
              refine lv_iconst (v := 0) hx hb dX7_tongues_133 (by decide) ?_
              refine ur_iast C h 252 (by decide) (uc_252 E) (1) (by decide) (by decide) dX7_tongues_134 (fun M_53 H locs eM_53 h => ?_)
              obtain ⟨hs1, hs2, hs3⟩ := fSps_ok 6 2 0 hcS
              obtain ⟨hw1, hw2, hw3⟩ := fWds_ok 6 _ 0 hcW
              have hz0 : M_53.1 252 0 = nI 0 := by rw [eM_53, u_set1, if_pos rfl, if_neg (by decide), eM_52]; rfl
              have hz1 : M_53.1 252 1 = nI 0 := by rw [eM_53]; rfl
              have h254z : M_53.1 254 = M_41.1 254 := by rw [eM_53, u_set_far (by decide), eM_52, u_set_far (by decide), eM_50, u_set_far (by decide), eM_49, u_set_far (by decide), eM_47, u_set_far (by decide)]; exact hothM_43
              have h255z : M_53.1 255 = M_43.1 255 := by rw [eM_53, u_set_far (by decide), eM_52, u_set_far (by decide), eM_50, u_set_far (by decide), eM_49, u_set_far (by decide), eM_47, u_set_far (by decide)]
              refine lv_iconst (v := 0) hx hb dX7_tongues_135 (by decide) ?_
              refine lv_istore (lv' := [(4, .int 0), (3, .int (nI ((fWds (tS (M.1 253) ty) ((fSps (tS (M.1 253) ty) 2 0 6).2.1 + 1) 0 6).2.2))), (2, .int (nI ((fSps (tS (M.1 253) ty) 2 0 6).2.2))), (1, .int r_3), (0, .ref (E.2.1 251))]) hx hb dX7_tongues_136 hl (by decide) rfl (fun ls hl => ?_)
              have lp138 : ∀ (n138 : Nat) (t : Nat) (Mt : uM), (fSps (tS (M.1 253) ty) 2 0 6).2.2 - t < n138 → (t ≤ (fSps (tS (M.1 253) ty) 2 0 6).2.2) → (Mt = mTs M_53 t) → ∀ (H : Heap) (locs : List Loc) (ls : Array Slot), uH E Mt s_ H locs → lv_has ls 6 [(4, .int (nI t)), (3, .int (nI ((fWds (tS (M.1 253) ty) ((fSps (tS (M.1 253) ty) 2 0 6).2.1 + 1) 0 6).2.2))), (2, .int (nI ((fSps (tS (M.1 253) ty) 2 0 6).2.2))), (1, .int r_3), (0, .ref (E.2.1 251))] → W p_ l e_ ({ frames := 3, cells := 0, slots := 0, locals := 73 }) s_ m_ (List.toArray [.ref (E.2.1 251)]) bl_ me_ c_ H locs 0 0 (MQ bl_ (va_Qi (fun r u => ∃ v, mFr M v ∧ if (fAll (tS (M.1 253) ty)).1 = true then (∀ i, i < (fSps (tS (M.1 253) ty) 2 0 6).2.2 → mDat (tS (M.1 253) ty) v i (2 + 9 * i)) ∧ (∀ i, i < (fWds (tS (M.1 253) ty) ((fSps (tS (M.1 253) ty) 2 0 6).2.1 + 1) 0 6).2.2 → v.1 255 i = nI (fW (tS (M.1 253) ty) (tWs (tS (M.1 253) ty) ((fSps (tS (M.1 253) ty) 2 0 6).2.1 + 1) i)).2) ∧ u = mTell (uSet v 251 2 0) (fSps (tS (M.1 253) ty) 2 0 6).2.2 (fWds (tS (M.1 253) ty) ((fSps (tS (M.1 253) ty) 2 0 6).2.1 + 1) 0 6).2.2 (tIx 0 (tS (M.1 253) ty (0))) ∧ r = nI (fSps (tS (M.1 253) ty) 2 0 6).2.2 else u = uSet v 251 2 0 ∧ r = (-20) - nI (tQ (M.1 253) ty (fAll (tS (M.1 253) ty)).2)) (uP E) (uA E)) (List.toArray [.ref (E.2.1 251)]) s_ 0 0 (uA E)) (F0 m_ 138 ls []) := by
                intro n138
                induction n138 with
                | zero => intro t Mt hms; exact absurd hms (Nat.not_lt_zero _)
                | succ n138 ih138 =>
                  intro t Mt hms138 ht6 hMt H locs ls h hl
                  refine lv_iload hx hb dX7_tongues_138 (lv_at hl 0 rfl) ?_
                  refine lv_iload_n hx hb dX7_tongues_140 rfl (lv_at hl 2 rfl) ?_
                  refine lv_icmp_ge (tgt := 227) hx hb dX7_tongues_141 (by decide) (fun c_54 => ?_) (fun c_54 => ?_)
                  · skip
                    have c_54 : ((fSps (tS (M.1 253) ty) 2 0 6).2.2) ≤ t := (nI_leI (a := ((fSps (tS (M.1 253) ty) 2 0 6).2.2)) (b := t) (by omega) (by omega)).mp c_54
                    have htn : t = (fSps (tS (M.1 253) ty) 2 0 6).2.2 := by omega
                    refine lv_iconst (v := 0) hx hb dX7_tongues_227 (by decide) ?_
                    refine lv_istore (lv' := [(4, .int 0), (3, .int (nI ((fWds (tS (M.1 253) ty) ((fSps (tS (M.1 253) ty) 2 0 6).2.1 + 1) 0 6).2.2))), (2, .int (nI ((fSps (tS (M.1 253) ty) 2 0 6).2.2))), (1, .int r_3), (0, .ref (E.2.1 251))]) hx hb dX7_tongues_228 hl (by decide) rfl (fun ls hl => ?_)
                    have lp230 : ∀ (n230 : Nat) (w : Nat) (Mw : uM), (fWds (tS (M.1 253) ty) ((fSps (tS (M.1 253) ty) 2 0 6).2.1 + 1) 0 6).2.2 - w < n230 → (w ≤ (fWds (tS (M.1 253) ty) ((fSps (tS (M.1 253) ty) 2 0 6).2.1 + 1) 0 6).2.2) → (Mw = mTw Mt w) → ∀ (H : Heap) (locs : List Loc) (ls : Array Slot), uH E Mw s_ H locs → lv_has ls 6 [(4, .int (nI w)), (3, .int (nI ((fWds (tS (M.1 253) ty) ((fSps (tS (M.1 253) ty) 2 0 6).2.1 + 1) 0 6).2.2))), (2, .int (nI ((fSps (tS (M.1 253) ty) 2 0 6).2.2))), (1, .int r_3), (0, .ref (E.2.1 251))] → W p_ l e_ ({ frames := 3, cells := 0, slots := 0, locals := 73 }) s_ m_ (List.toArray [.ref (E.2.1 251)]) bl_ me_ c_ H locs 0 0 (MQ bl_ (va_Qi (fun r u => ∃ v, mFr M v ∧ if (fAll (tS (M.1 253) ty)).1 = true then (∀ i, i < (fSps (tS (M.1 253) ty) 2 0 6).2.2 → mDat (tS (M.1 253) ty) v i (2 + 9 * i)) ∧ (∀ i, i < (fWds (tS (M.1 253) ty) ((fSps (tS (M.1 253) ty) 2 0 6).2.1 + 1) 0 6).2.2 → v.1 255 i = nI (fW (tS (M.1 253) ty) (tWs (tS (M.1 253) ty) ((fSps (tS (M.1 253) ty) 2 0 6).2.1 + 1) i)).2) ∧ u = mTell (uSet v 251 2 0) (fSps (tS (M.1 253) ty) 2 0 6).2.2 (fWds (tS (M.1 253) ty) ((fSps (tS (M.1 253) ty) 2 0 6).2.1 + 1) 0 6).2.2 (tIx 0 (tS (M.1 253) ty (0))) ∧ r = nI (fSps (tS (M.1 253) ty) 2 0 6).2.2 else u = uSet v 251 2 0 ∧ r = (-20) - nI (tQ (M.1 253) ty (fAll (tS (M.1 253) ty)).2)) (uP E) (uA E)) (List.toArray [.ref (E.2.1 251)]) s_ 0 0 (uA E)) (F0 m_ 230 ls []) := by
                      intro n230
                      induction n230 with
                      | zero => intro w Mw hms; exact absurd hms (Nat.not_lt_zero _)
                      | succ n230 ih230 =>
                        intro w Mw hms230 hw6 hMw H locs ls h hl
                        refine lv_iload hx hb dX7_tongues_230 (lv_at hl 0 rfl) ?_
                        refine lv_iload_n hx hb dX7_tongues_232 rfl (lv_at hl 1 rfl) ?_
                        refine lv_icmp_ge (tgt := 254) hx hb dX7_tongues_233 (by decide) (fun c_55 => ?_) (fun c_55 => ?_)
                        · skip
                          have c_55 : ((fWds (tS (M.1 253) ty) ((fSps (tS (M.1 253) ty) 2 0 6).2.1 + 1) 0 6).2.2) ≤ w := (nI_leI (a := ((fWds (tS (M.1 253) ty) ((fSps (tS (M.1 253) ty) 2 0 6).2.1 + 1) 0 6).2.2)) (b := w) (by omega) (by omega)).mp c_55
                          refine lv_aload_n hx hb dX7_tongues_254 rfl (lv_at hl 4 rfl) ?_
                          refine ur_get C h 251 (by decide) (uc_251 E _) (Cn := RX7) (T := TX7) (N := 17) rfl hin7 0 (by decide) (by decide +kernel) rfl dX7_tongues_255 ?_
                          refine lv_iconst (v := 2) hx hb dX7_tongues_258 (by decide) ?_
                          refine lv_iload_n hx hb dX7_tongues_259 rfl (lv_at hl 3 rfl) ?_
                          refine ur_iast C h 252 (by decide) (uc_252 E) (2) (by decide) (by decide) dX7_tongues_260 (fun M_56 H locs eM_56 h => ?_)
                          refine lv_aload_n hx hb dX7_tongues_261 rfl (lv_at hl 4 rfl) ?_
                          refine ur_get C h 251 (by decide) (uc_251 E _) (Cn := RX7) (T := TX7) (N := 17) rfl hin7 0 (by decide) (by decide +kernel) rfl dX7_tongues_262 ?_
                          refine lv_iconst (v := 4) hx hb dX7_tongues_265 (by decide) ?_
                          refine lv_iconst (v := 0) hx hb dX7_tongues_266 (by decide) ?_
                          refine ur_iast C h 252 (by decide) (uc_252 E) (4) (by decide) (by decide) dX7_tongues_267 (fun M_57 H locs eM_57 h => ?_)
                          refine lv_aload_n hx hb dX7_tongues_268 rfl (lv_at hl 4 rfl) ?_
                          refine ur_get C h 251 (by decide) (uc_251 E _) (Cn := RX7) (T := TX7) (N := 17) rfl hin7 0 (by decide) (by decide +kernel) rfl dX7_tongues_269 ?_
                          refine lv_bipush (v := 6) hx hb dX7_tongues_272 (by decide) ?_
                          refine lv_iconst (v := 0) hx hb dX7_tongues_274 (by decide) ?_
                          refine ur_iast C h 252 (by decide) (uc_252 E) (6) (by decide) (by decide) dX7_tongues_275 (fun M_58 H locs eM_58 h => ?_)
                          refine lv_aload_n hx hb dX7_tongues_276 rfl (lv_at hl 4 rfl) ?_
                          refine lv_iconst (v := 0) hx hb dX7_tongues_277 (by decide) ?_
                          refine ur_puti C h 251 (by decide) (uc_251 E _) (Cn := RX7) (T := TX7) (N := 17) rfl hin7 tyX7 tyX7_ok nmX7 8 (by decide) (by decide +kernel) rfl rfl rfl (Nat.le_of_ble_eq_true rfl) (us_251_8 E _ _) dX7_tongues_278 (fun M_59 H locs eM_59 h => ?_)
                          refine lv_iload_n hx hb dX7_tongues_281 rfl (lv_at hl 2 rfl) ?_
                          exact ur_iret C h hr hlocks (⟨M_49, hKM_49, by rw [hAt, if_pos rfl]; exact ⟨fun i hi => by unfold mDat; rw [show M_49.1 254 = M_41.1 254 from (by rw [eM_49, u_set_far (by decide), eM_47, u_set_far (by decide)]; exact hothM_43)]; exact hdS0 i hi, fun i hi => by rw [eM_49, u_set_far (by decide), eM_47, u_set_far (by decide)]; exact hdW i hi, by rw [eM_59, eM_58, eM_57, eM_56, hMw, hMt, htn, show w = (fWds (tS (M.1 253) ty) ((fSps (tS (M.1 253) ty) 2 0 6).2.1 + 1) 0 6).2.2 by omega, eM_53, eM_52, eM_50, hear]; rfl, rfl⟩⟩) dX7_tongues_282
                        · skip
                          have c_55 : ¬ ((fWds (tS (M.1 253) ty) ((fSps (tS (M.1 253) ty) 2 0 6).2.1 + 1) 0 6).2.2) ≤ w := fun z => c_55 ((nI_leI (a := ((fWds (tS (M.1 253) ty) ((fSps (tS (M.1 253) ty) 2 0 6).2.1 + 1) 0 6).2.2)) (b := w) (by omega) (by omega)).mpr z)
                          have hn1 : Mw.1 252 1 = nI w := by rw [hMw]; exact mTw_1 (by rw [hMt, mTs_1]; exact hz1) w
                          have hWw := fW_ok (hw3 w (by omega))
                          have hx5 : (Mw.1 255 w).toInt = (fW (tS (M.1 253) ty) (tWs (tS (M.1 253) ty) ((fSps (tS (M.1 253) ty) 2 0 6).2.1 + 1) w)).2 := by rw [hMw, mTw_255, hMt, mTs_far (by decide) (by decide), h255z, hdW w (by omega), nI_toInt (by omega)]
                          refine lv_aload_n hx hb dX7_tongues_236 rfl (lv_at hl 4 rfl) ?_
                          refine lv_aload_n hx hb dX7_tongues_237 rfl (lv_at hl 4 rfl) ?_
                          refine ur_get C h 251 (by decide) (uc_251 E _) (Cn := RX7) (T := TX7) (N := 17) rfl hin7 6 (by decide) (by decide +kernel) rfl dX7_tongues_238 ?_
                          refine lv_iload hx hb dX7_tongues_241 (lv_at hl 0 rfl) ?_
                          refine ur_iald C h 255 (by decide) (uc_255 E _) (w) (by omega) (by decide) dX7_tongues_243 ?_
                          refine ur_callVi C h (k := 251) (As := [.int (Mw.1 255 w)]) (rest := []) (k_X7_word l E hI Mw (Mw.1 255 w) w hn1 (by omega)) (cwV 1 hts gX7_tongues_X7_word rfl rfl rfl (by decide +kernel) ⟨Nat.le_of_ble_eq_true rfl, Nat.le_of_ble_eq_true rfl⟩) (by decide) (uc_251 E _) (T := TX7) (N := 17) rfl rfl hl.1 rfl (Nat.le_of_ble_eq_true rfl) dX7_tongues_244 (fun r_60 M_61 H locs hw_61 h => ?_)
                          rw [if_pos (by rw [hx5]; omega), if_neg (by omega)] at hw_61
                          obtain ⟨eM_61, -⟩ := hw_61
                          refine lv_pop hx hb dX7_tongues_247 rfl ?_
                          refine lv_iinc (v := nI (w + 1)) (lv' := [(4, .int (nI (w + 1))), (3, .int (nI ((fWds (tS (M.1 253) ty) ((fSps (tS (M.1 253) ty) 2 0 6).2.1 + 1) 0 6).2.2))), (2, .int (nI ((fSps (tS (M.1 253) ty) 2 0 6).2.2))), (1, .int r_3), (0, .ref (E.2.1 251))]) hx hb dX7_tongues_248 hl (k := 0) rfl (nI_add w 1) (by decide) rfl (fun ls hl => ?_)
                          refine lv_goto (tgt := 230) hx hb dX7_tongues_251 (by decide) ?_
                          exact ih230  (w + 1) M_61 (by omega) (by omega) (by rw [eM_61, hMw]; rfl) _ _ _ h (lv_sub hl [0, 1, 2, 3, 4] rfl)
                    exact lp230 _ 0 Mt (Nat.lt_succ_self _) (Nat.zero_le _) rfl _ _ _ h (lv_sub hl [0, 1, 2, 3, 4] rfl)
                  · skip
                    have c_54 : ¬ ((fSps (tS (M.1 253) ty) 2 0 6).2.2) ≤ t := fun z => c_54 ((nI_leI (a := ((fSps (tS (M.1 253) ty) 2 0 6).2.2)) (b := t) (by omega) (by omega)).mpr z)
                    have h254t : Mt.1 254 = M_41.1 254 := by rw [hMt]; exact (mTs_far (by decide) (by decide) t).trans h254z
                    obtain ⟨hd1, hd2, -⟩ := hdS0 t (by omega)
                    obtain ⟨hk3, hk4⟩ := fRun_34 (hs3 t (by omega))
                    have hr3 := tIx_hi (k := 3) (by decide) hk3
                    have hr4 := tIx_hi (k := 4) (by decide) hk4
                    have hr3 : 0 ≤ (tIx 3 (tS (M.1 253) ty (2 + 9 * t))).toInt ∧ (tIx 3 (tS (M.1 253) ty (2 + 9 * t))).toInt < (5 : Nat) := hr3
                    have hr4 : 0 ≤ (tIx 4 (tS (M.1 253) ty (2 + 9 * t + 1))).toInt ∧ (tIx 4 (tS (M.1 253) ty (2 + 9 * t + 1))).toInt < (2 : Nat) := hr4
                    have hx1 : Mt.1 254 (8 * t) = tIx 3 (tS (M.1 253) ty (2 + 9 * t)) := by rw [h254t]; exact hd1
                    have hx2 : Mt.1 254 (8 * t + 1) = tIx 4 (tS (M.1 253) ty (2 + 9 * t + 1)) := by rw [h254t]; exact hd2
                    have hn0 : Mt.1 252 0 = nI t := by rw [hMt]; exact mTs_0 hz0 t
                    refine lv_aload_n hx hb dX7_tongues_144 rfl (lv_at hl 4 rfl) ?_
                    refine lv_aload_n hx hb dX7_tongues_145 rfl (lv_at hl 4 rfl) ?_
                    refine ur_get C h 251 (by decide) (uc_251 E _) (Cn := RX7) (T := TX7) (N := 17) rfl hin7 5 (by decide) (by decide +kernel) rfl dX7_tongues_146 ?_
                    refine lv_bipush (v := 8) hx hb dX7_tongues_149 (by decide) ?_
                    refine lv_iload hx hb dX7_tongues_151 (lv_at hl 0 rfl) ?_
                    refine lv_imul hx hb dX7_tongues_153 ?_
                    refine ur_eq (y := nI (8 * t)) (pk_mul 8 t) ?_
                    refine ur_iald C h 254 (by decide) (uc_254 E _) (8 * t) (by omega) (by decide) dX7_tongues_154 ?_
                    refine lv_aload_n hx hb dX7_tongues_155 rfl (lv_at hl 4 rfl) ?_
                    refine ur_get C h 251 (by decide) (uc_251 E _) (Cn := RX7) (T := TX7) (N := 17) rfl hin7 5 (by decide) (by decide +kernel) rfl dX7_tongues_156 ?_
                    refine lv_bipush (v := 8) hx hb dX7_tongues_159 (by decide) ?_
                    refine lv_iload hx hb dX7_tongues_161 (lv_at hl 0 rfl) ?_
                    refine lv_imul hx hb dX7_tongues_163 ?_
                    refine ur_eq (y := nI (8 * t)) (pk_mul 8 t) ?_
                    refine lv_iconst (v := 1) hx hb dX7_tongues_164 (by decide) ?_
                    refine lv_iadd hx hb dX7_tongues_165 ?_
                    refine ur_eq (y := nI (8 * t + 1)) (nI_add (8 * t) 1) ?_
                    refine ur_iald C h 254 (by decide) (uc_254 E _) (8 * t + 1) (by omega) (by decide) dX7_tongues_166 ?_
                    refine lv_iconst (v := 0) hx hb dX7_tongues_167 (by decide) ?_
                    refine ur_callVi C h (k := 251) (As := [.int (Mt.1 254 (8 * t)), .int (Mt.1 254 (8 * t + 1)), .int 0]) (rest := []) (k_X7_speaker l E hI Mt (Mt.1 254 (8 * t)) (Mt.1 254 (8 * t + 1)) 0 t hn0 (by omega)) (cwV 3 hts gX7_tongues_X7_speaker rfl rfl rfl (by decide +kernel) ⟨Nat.le_of_ble_eq_true rfl, Nat.le_of_ble_eq_true rfl⟩) (by decide) (uc_251 E _) (T := TX7) (N := 17) rfl rfl hl.1 rfl (Nat.le_of_ble_eq_true rfl) dX7_tongues_168 (fun r_62 M_63 H locs hw_63 h => ?_)
                    rw [if_pos ⟨by rw [hx1]; omega, by rw [hx2]; omega, by decide⟩, if_neg (by omega)] at hw_63
                    obtain ⟨eM_63, -⟩ := hw_63
                    refine lv_pop hx hb dX7_tongues_171 rfl ?_
                    refine lv_iconst (v := 0) hx hb dX7_tongues_172 (by decide) ?_
                    refine lv_istore (lv' := [(5, .int 0), (4, .int (nI t)), (3, .int (nI ((fWds (tS (M.1 253) ty) ((fSps (tS (M.1 253) ty) 2 0 6).2.1 + 1) 0 6).2.2))), (2, .int (nI ((fSps (tS (M.1 253) ty) 2 0 6).2.2))), (1, .int r_3), (0, .ref (E.2.1 251))]) hx hb dX7_tongues_173 hl (by decide) rfl (fun ls hl => ?_)
                    have lp175 : ∀ (n175 : Nat) (j : Nat) (Mj : uM), 6 - j < n175 → (j ≤ 6) → (Mj = mCp M_63 t j) → ∀ (H : Heap) (locs : List Loc) (ls : Array Slot), uH E Mj s_ H locs → lv_has ls 6 [(5, .int (nI j)), (4, .int (nI t)), (3, .int (nI ((fWds (tS (M.1 253) ty) ((fSps (tS (M.1 253) ty) 2 0 6).2.1 + 1) 0 6).2.2))), (2, .int (nI ((fSps (tS (M.1 253) ty) 2 0 6).2.2))), (1, .int r_3), (0, .ref (E.2.1 251))] → W p_ l e_ ({ frames := 3, cells := 0, slots := 0, locals := 73 }) s_ m_ (List.toArray [.ref (E.2.1 251)]) bl_ me_ c_ H locs 0 0 (MQ bl_ (va_Qi (fun r u => ∃ v, mFr M v ∧ if (fAll (tS (M.1 253) ty)).1 = true then (∀ i, i < (fSps (tS (M.1 253) ty) 2 0 6).2.2 → mDat (tS (M.1 253) ty) v i (2 + 9 * i)) ∧ (∀ i, i < (fWds (tS (M.1 253) ty) ((fSps (tS (M.1 253) ty) 2 0 6).2.1 + 1) 0 6).2.2 → v.1 255 i = nI (fW (tS (M.1 253) ty) (tWs (tS (M.1 253) ty) ((fSps (tS (M.1 253) ty) 2 0 6).2.1 + 1) i)).2) ∧ u = mTell (uSet v 251 2 0) (fSps (tS (M.1 253) ty) 2 0 6).2.2 (fWds (tS (M.1 253) ty) ((fSps (tS (M.1 253) ty) 2 0 6).2.1 + 1) 0 6).2.2 (tIx 0 (tS (M.1 253) ty (0))) ∧ r = nI (fSps (tS (M.1 253) ty) 2 0 6).2.2 else u = uSet v 251 2 0 ∧ r = (-20) - nI (tQ (M.1 253) ty (fAll (tS (M.1 253) ty)).2)) (uP E) (uA E)) (List.toArray [.ref (E.2.1 251)]) s_ 0 0 (uA E)) (F0 m_ 175 ls []) := by
                      intro n175
                      induction n175 with
                      | zero => intro j Mj hms; exact absurd hms (Nat.not_lt_zero _)
                      | succ n175 ih175 =>
                        intro j Mj hms175 hj hMj H locs ls h hl
                        refine lv_iload hx hb dX7_tongues_175 (lv_at hl 0 rfl) ?_
                        refine lv_bipush (v := 6) hx hb dX7_tongues_177 (by decide) ?_
                        refine lv_icmp_ge (tgt := 221) hx hb dX7_tongues_179 (by decide) (fun c_64 => ?_) (fun c_64 => ?_)
                        · skip
                          have c_64 : 6 ≤ j := (nI_leI (a := 6) (b := j) (by omega) (by omega)).mp c_64
                          refine lv_iinc (v := nI (t + 1)) (lv' := [(4, .int (nI (t + 1))), (5, .int (nI j)), (3, .int (nI ((fWds (tS (M.1 253) ty) ((fSps (tS (M.1 253) ty) 2 0 6).2.1 + 1) 0 6).2.2))), (2, .int (nI ((fSps (tS (M.1 253) ty) 2 0 6).2.2))), (1, .int r_3), (0, .ref (E.2.1 251))]) hx hb dX7_tongues_221 hl (k := 1) rfl (nI_add t 1) (by decide) rfl (fun ls hl => ?_)
                          refine lv_goto (tgt := 138) hx hb dX7_tongues_224 (by decide) ?_
                          exact ih138  (t + 1) Mj (by omega) (by omega) (by rw [hMj, show j = 6 by omega, eM_63, hMt]; rfl) _ _ _ h (lv_sub hl [0, 2, 3, 4, 5] rfl)
                        · skip
                          have c_64 : ¬ 6 ≤ j := fun z => c_64 ((nI_leI (a := 6) (b := j) (by omega) (by omega)).mpr z)
                          refine lv_aload_n hx hb dX7_tongues_182 rfl (lv_at hl 5 rfl) ?_
                          refine ur_get C h 251 (by decide) (uc_251 E _) (Cn := RX7) (T := TX7) (N := 17) rfl hin7 0 (by decide) (by decide +kernel) rfl dX7_tongues_183 ?_
                          refine lv_bipush (v := 7) hx hb dX7_tongues_186 (by decide) ?_
                          refine lv_bipush (v := 10) hx hb dX7_tongues_188 (by decide) ?_
                          refine lv_iload hx hb dX7_tongues_190 (lv_at hl 1 rfl) ?_
                          refine lv_imul hx hb dX7_tongues_192 ?_
                          refine ur_eq (y := nI (10 * t)) (pk_mul 10 t) ?_
                          refine lv_iadd hx hb dX7_tongues_193 ?_
                          refine ur_eq (y := nI (7 + 10 * t)) (nI_add 7 (10 * t)) ?_
                          refine lv_iconst (v := 4) hx hb dX7_tongues_194 (by decide) ?_
                          refine lv_iadd hx hb dX7_tongues_195 ?_
                          refine ur_eq (y := nI (7 + 10 * t + 4)) (nI_add (7 + 10 * t) 4) ?_
                          refine lv_iload hx hb dX7_tongues_196 (lv_at hl 0 rfl) ?_
                          refine lv_iadd hx hb dX7_tongues_198 ?_
                          refine ur_eq (y := nI (7 + 10 * t + 4 + j)) (nI_add (7 + 10 * t + 4) j) ?_
                          refine lv_aload_n hx hb dX7_tongues_199 rfl (lv_at hl 5 rfl) ?_
                          refine ur_get C h 251 (by decide) (uc_251 E _) (Cn := RX7) (T := TX7) (N := 17) rfl hin7 5 (by decide) (by decide +kernel) rfl dX7_tongues_200 ?_
                          refine lv_bipush (v := 8) hx hb dX7_tongues_203 (by decide) ?_
                          refine lv_iload hx hb dX7_tongues_205 (lv_at hl 1 rfl) ?_
                          refine lv_imul hx hb dX7_tongues_207 ?_
                          refine ur_eq (y := nI (8 * t)) (pk_mul 8 t) ?_
                          refine lv_iconst (v := 2) hx hb dX7_tongues_208 (by decide) ?_
                          refine lv_iadd hx hb dX7_tongues_209 ?_
                          refine ur_eq (y := nI (8 * t + 2)) (nI_add (8 * t) 2) ?_
                          refine lv_iload hx hb dX7_tongues_210 (lv_at hl 0 rfl) ?_
                          refine lv_iadd hx hb dX7_tongues_212 ?_
                          refine ur_eq (y := nI (8 * t + 2 + j)) (nI_add (8 * t + 2) j) ?_
                          refine ur_iald C h 254 (by decide) (uc_254 E _) (8 * t + 2 + j) (by omega) (by decide) dX7_tongues_213 ?_
                          refine ur_iast C h 252 (by decide) (uc_252 E) (7 + 10 * t + 4 + j) (by omega) (by decide) dX7_tongues_214 (fun M_65 H locs eM_65 h => ?_)
                          refine lv_iinc (v := nI (j + 1)) (lv' := [(5, .int (nI (j + 1))), (4, .int (nI t)), (3, .int (nI ((fWds (tS (M.1 253) ty) ((fSps (tS (M.1 253) ty) 2 0 6).2.1 + 1) 0 6).2.2))), (2, .int (nI ((fSps (tS (M.1 253) ty) 2 0 6).2.2))), (1, .int r_3), (0, .ref (E.2.1 251))]) hx hb dX7_tongues_215 hl (k := 0) rfl (nI_add j 1) (by decide) rfl (fun ls hl => ?_)
                          refine lv_goto (tgt := 175) hx hb dX7_tongues_218 (by decide) ?_
                          exact ih175  (j + 1) M_65 (by omega) (by omega) (by rw [eM_65, hMj]; rfl) _ _ _ h (lv_sub hl [0, 1, 2, 3, 4, 5] rfl)
                    exact lp175 _ 0 M_63 (Nat.lt_succ_self _) (by omega) rfl _ _ _ h (lv_sub hl [0, 1, 2, 3, 4, 5] rfl)
              exact lp138 _ 0 M_53 (Nat.lt_succ_self _) (Nat.zero_le _) rfl _ _ _ h (lv_sub hl [0, 1, 2, 3, 4] rfl)
            · skip
              have hAf : (fAll (tS (M.1 253) ty)) = (false, (fWds (tS (M.1 253) ty) ((fSps (tS (M.1 253) ty) 2 0 6).2.1 + 1) 0 6).2.1) := (if_pos hg0).trans ((if_pos hg1).trans ((if_pos ⟨hcS, hgA⟩).trans (if_neg (fun zq => c_48 zq.2))))
              refine lv_iconst (v := 1) hx hb dX7_tongues_93 (by decide) ?_
              refine lv_goto (tgt := 98) hx hb dX7_tongues_94 (by decide) ?_
              refine ur_puti C h 251 (by decide) (uc_251 E _) (Cn := RX7) (T := TX7) (N := 17) rfl hin7 tyX7 tyX7_ok nmX7 4 (by decide) (by decide +kernel) rfl (by rfl) rfl (Nat.le_of_ble_eq_true rfl) (us_251_4 E _ _) dX7_tongues_98 (fun M_66 H locs eM_66 h => ?_)
              have hfM_66 : M_66.1 251 4 = 1 := by rw [eM_66]; rfl
              have hpM_66 : M_66.1 251 3 = nI (tQ (M.1 253) ty ((fWds (tS (M.1 253) ty) ((fSps (tS (M.1 253) ty) 2 0 6).2.1 + 1) 0 6).2.1)) := by rw [eM_66, u_set1, if_pos rfl, if_neg (by decide)]; exact hpM_47
              have hKM_66 : mFr M M_66 := mFr_trans hKM_47 (show mFr M_47 M_66 from by rw [eM_66]; exact mFr_f (Or.inr rfl))
              refine lv_aload_n hx hb dX7_tongues_101 rfl (lv_at hl 3 rfl) ?_
              refine lv_iconst (v := 0) hx hb dX7_tongues_102 (by decide) ?_
              refine ur_puti C h 251 (by decide) (uc_251 E _) (Cn := RX7) (T := TX7) (N := 17) rfl hin7 tyX7 tyX7_ok nmX7 2 (by decide) (by decide +kernel) rfl rfl rfl (Nat.le_of_ble_eq_true rfl) (us_251_2 E _ _) dX7_tongues_103 (fun M_67 H locs eM_67 h => ?_)
              have hfM_67 : M_67.1 251 4 = 1 := by rw [eM_67, u_set1, if_pos rfl, if_neg (by decide)]; exact hfM_66
              refine lv_aload_n hx hb dX7_tongues_106 rfl (lv_at hl 3 rfl) ?_
              refine ur_get C h 251 (by decide) (uc_251 E _) (Cn := RX7) (T := TX7) (N := 17) rfl hin7 4 (by decide) (by decide +kernel) rfl dX7_tongues_107 ?_
              refine ur_eq (y := nI 1) (by rw [eM_67, u_set1, if_pos rfl, if_neg (by omega), eM_66, u_set1, if_pos rfl, if_pos rfl]; try rfl) ?_
              refine ur_eq (y := 1) rfl ?_
              refine lv_if_eq (tgt := 121) hx hb dX7_tongues_110 (by decide) (fun z => absurd z (by decide)) (fun c_68 => ?_)
              refine lv_bipush (v := (-20)) hx hb dX7_tongues_113 (by decide) ?_
              refine lv_aload_n hx hb dX7_tongues_115 rfl (lv_at hl 3 rfl) ?_
              refine ur_get C h 251 (by decide) (uc_251 E _) (Cn := RX7) (T := TX7) (N := 17) rfl hin7 3 (by decide) (by decide +kernel) rfl dX7_tongues_116 ?_
              refine ur_eq (y := nI (tQ (M.1 253) ty ((fWds (tS (M.1 253) ty) ((fSps (tS (M.1 253) ty) 2 0 6).2.1 + 1) 0 6).2.1))) ((by rw [eM_67, u_set1, if_pos rfl, if_neg (by decide)]; exact hpM_66)) ?_
              refine lv_isub hx hb dX7_tongues_119 ?_
              exact ur_iret C h hr hlocks (⟨M_66, hKM_66, by rw [hAf, if_neg Bool.false_ne_true]; exact ⟨eM_67, rfl⟩⟩) dX7_tongues_120
          · skip
            rw [if_neg c_44] at hqM_43
            have hkM_43 : mFr M_41 M_43 := hfrM_43
            have h253M_43 : M_43.1 253 = M.1 253 := (hkM_43.1 253 (by decide) (by decide) (by decide)).trans h253M_41
            have htyM_43 : M_43.1 251 2 = nI ty := (hkM_43.2.1 2 (by decide) (by decide)).trans htyM_41
            have hKM_43 : mFr M M_43 := mFr_trans hKM_41 hkM_43
            have hAf : (fAll (tS (M.1 253) ty)) = (false, (fWds (tS (M.1 253) ty) ((fSps (tS (M.1 253) ty) 2 0 6).2.1 + 1) 0 6).2.1) := (if_pos hg0).trans ((if_pos hg1).trans ((if_pos ⟨hcS, hgA⟩).trans (if_neg (fun zq => c_44 zq.1))))
            refine lv_istore_n (lv' := [(3, .int r_42), (2, .int (nI ((fSps (tS (M.1 253) ty) 2 0 6).2.2))), (1, .int r_3), (0, .ref (E.2.1 251))]) hx hb dX7_tongues_77 rfl hl (by decide) rfl (fun ls hl => ?_)
            refine lv_aload_n hx hb dX7_tongues_78 rfl (lv_at hl 3 rfl) ?_
            refine lv_aload_n hx hb dX7_tongues_79 rfl (lv_at hl 3 rfl) ?_
            refine ur_get C h 251 (by decide) (uc_251 E _) (Cn := RX7) (T := TX7) (N := 17) rfl hin7 4 (by decide) (by decide +kernel) rfl dX7_tongues_80 ?_
            refine ur_eq (y := 1) hqM_43.1 ?_
            refine lv_if_ne (tgt := 93) hx hb dX7_tongues_83 (by decide) (fun c_69 => ?_) (fun z => absurd z (by decide))
            refine lv_iconst (v := 1) hx hb dX7_tongues_93 (by decide) ?_
            refine lv_goto (tgt := 98) hx hb dX7_tongues_94 (by decide) ?_
            refine ur_puti C h 251 (by decide) (uc_251 E _) (Cn := RX7) (T := TX7) (N := 17) rfl hin7 tyX7 tyX7_ok nmX7 4 (by decide) (by decide +kernel) rfl (by rfl) rfl (Nat.le_of_ble_eq_true rfl) (us_251_4 E _ _) dX7_tongues_98 (fun M_70 H locs eM_70 h => ?_)
            have hfM_70 : M_70.1 251 4 = 1 := by rw [eM_70]; rfl
            have hpM_70 : M_70.1 251 3 = nI (tQ (M.1 253) ty ((fWds (tS (M.1 253) ty) ((fSps (tS (M.1 253) ty) 2 0 6).2.1 + 1) 0 6).2.1)) := by rw [eM_70, u_set1, if_pos rfl, if_neg (by decide)]; exact hqM_43.2
            have hKM_70 : mFr M M_70 := mFr_trans hKM_43 (show mFr M_43 M_70 from by rw [eM_70]; exact mFr_f (Or.inr rfl))
            refine lv_aload_n hx hb dX7_tongues_101 rfl (lv_at hl 3 rfl) ?_
            refine lv_iconst (v := 0) hx hb dX7_tongues_102 (by decide) ?_
            refine ur_puti C h 251 (by decide) (uc_251 E _) (Cn := RX7) (T := TX7) (N := 17) rfl hin7 tyX7 tyX7_ok nmX7 2 (by decide) (by decide +kernel) rfl rfl rfl (Nat.le_of_ble_eq_true rfl) (us_251_2 E _ _) dX7_tongues_103 (fun M_71 H locs eM_71 h => ?_)
            have hfM_71 : M_71.1 251 4 = 1 := by rw [eM_71, u_set1, if_pos rfl, if_neg (by decide)]; exact hfM_70
            refine lv_aload_n hx hb dX7_tongues_106 rfl (lv_at hl 3 rfl) ?_
            refine ur_get C h 251 (by decide) (uc_251 E _) (Cn := RX7) (T := TX7) (N := 17) rfl hin7 4 (by decide) (by decide +kernel) rfl dX7_tongues_107 ?_
            refine ur_eq (y := nI 1) (by rw [eM_71, u_set1, if_pos rfl, if_neg (by omega), eM_70, u_set1, if_pos rfl, if_pos rfl]; try rfl) ?_
            refine ur_eq (y := 1) rfl ?_
            refine lv_if_eq (tgt := 121) hx hb dX7_tongues_110 (by decide) (fun z => absurd z (by decide)) (fun c_72 => ?_)
            refine lv_bipush (v := (-20)) hx hb dX7_tongues_113 (by decide) ?_
            refine lv_aload_n hx hb dX7_tongues_115 rfl (lv_at hl 3 rfl) ?_
            refine ur_get C h 251 (by decide) (uc_251 E _) (Cn := RX7) (T := TX7) (N := 17) rfl hin7 3 (by decide) (by decide +kernel) rfl dX7_tongues_116 ?_
            refine ur_eq (y := nI (tQ (M.1 253) ty ((fWds (tS (M.1 253) ty) ((fSps (tS (M.1 253) ty) 2 0 6).2.1 + 1) 0 6).2.1))) ((by rw [eM_71, u_set1, if_pos rfl, if_neg (by decide)]; exact hpM_70)) ?_
            refine lv_isub hx hb dX7_tongues_119 ?_
            exact ur_iret C h hr hlocks (⟨M_70, hKM_70, by rw [hAf, if_neg Bool.false_ne_true]; exact ⟨eM_71, rfl⟩⟩) dX7_tongues_120
      · skip
        rw [if_neg c_27] at hqM_26
        have hkM_26 : mFr M_24 M_26 := hfrM_26
        have h253M_26 : M_26.1 253 = M.1 253 := (hkM_26.1 253 (by decide) (by decide) (by decide)).trans h253M_24
        have htyM_26 : M_26.1 251 2 = nI ty := (hkM_26.2.1 2 (by decide) (by decide)).trans htyM_24
        have hKM_26 : mFr M M_26 := mFr_trans hKM_24 hkM_26
        have hAf : (fAll (tS (M.1 253) ty)) = (false, (fSps (tS (M.1 253) ty) 2 0 6).2.1) := (if_pos hg0).trans ((if_pos hg1).trans (if_neg (fun zq => c_27 zq.1)))
        refine lv_istore_n (lv' := [(2, .int r_25), (1, .int r_3), (0, .ref (E.2.1 251))]) hx hb dX7_tongues_47 rfl hl (by decide) rfl (fun ls hl => ?_)
        refine lv_aload_n hx hb dX7_tongues_48 rfl (lv_at hl 2 rfl) ?_
        refine lv_aload_n hx hb dX7_tongues_49 rfl (lv_at hl 2 rfl) ?_
        refine ur_get C h 251 (by decide) (uc_251 E _) (Cn := RX7) (T := TX7) (N := 17) rfl hin7 4 (by decide) (by decide +kernel) rfl dX7_tongues_50 ?_
        refine ur_eq (y := 1) hqM_26.1 ?_
        refine lv_if_ne (tgt := 69) hx hb dX7_tongues_53 (by decide) (fun c_73 => ?_) (fun z => absurd z (by decide))
        refine lv_iconst (v := 0) hx hb dX7_tongues_69 (by decide) ?_
        refine ur_callVv C h (k := 251) (As := [.int 0]) (rest := []) (k_X7_must_f l E hI M_26 0 hqM_26.1 (tQ (M.1 253) ty ((fSps (tS (M.1 253) ty) 2 0 6).2.1)) hqM_26.2) (cwV 1 hts gX7_tongues_X7_must rfl rfl rfl (by decide +kernel) ⟨Nat.le_of_ble_eq_true rfl, Nat.le_of_ble_eq_true rfl⟩) (by decide) (uc_251 E _) (T := TX7) (N := 17) rfl rfl hl.1 rfl (Nat.le_of_ble_eq_true rfl) dX7_tongues_70 (fun M_75 H locs hw_75 h => ?_)
        have hu := hw_75
        subst hu
        refine lv_aload_n hx hb dX7_tongues_73 rfl (lv_at hl 2 rfl) ?_
        refine ur_callVi C h (k := 251) (As := []) (rest := []) (k_X7_readWordsOf_f l E hI M_26 hqM_26.1) (cwV 0 hts gX7_tongues_X7_readWordsOf rfl rfl rfl (by decide +kernel) ⟨Nat.le_of_ble_eq_true rfl, Nat.le_of_ble_eq_true rfl⟩) (by decide) (uc_251 E _) (T := TX7) (N := 17) rfl rfl hl.1 rfl (Nat.le_of_ble_eq_true rfl) dX7_tongues_74 (fun r_76 M_77 H locs hw_77 h => ?_)
        obtain ⟨hu, er_76⟩ := hw_77
        subst hu
        refine lv_istore_n (lv' := [(3, .int r_76), (2, .int r_25), (1, .int r_3), (0, .ref (E.2.1 251))]) hx hb dX7_tongues_77 rfl hl (by decide) rfl (fun ls hl => ?_)
        refine lv_aload_n hx hb dX7_tongues_78 rfl (lv_at hl 3 rfl) ?_
        refine lv_aload_n hx hb dX7_tongues_79 rfl (lv_at hl 3 rfl) ?_
        refine ur_get C h 251 (by decide) (uc_251 E _) (Cn := RX7) (T := TX7) (N := 17) rfl hin7 4 (by decide) (by decide +kernel) rfl dX7_tongues_80 ?_
        refine ur_eq (y := 1) hqM_26.1 ?_
        refine lv_if_ne (tgt := 93) hx hb dX7_tongues_83 (by decide) (fun c_78 => ?_) (fun z => absurd z (by decide))
        refine lv_iconst (v := 1) hx hb dX7_tongues_93 (by decide) ?_
        refine lv_goto (tgt := 98) hx hb dX7_tongues_94 (by decide) ?_
        refine ur_puti C h 251 (by decide) (uc_251 E _) (Cn := RX7) (T := TX7) (N := 17) rfl hin7 tyX7 tyX7_ok nmX7 4 (by decide) (by decide +kernel) rfl (by rfl) rfl (Nat.le_of_ble_eq_true rfl) (us_251_4 E _ _) dX7_tongues_98 (fun M_79 H locs eM_79 h => ?_)
        have hfM_79 : M_79.1 251 4 = 1 := by rw [eM_79]; rfl
        have hpM_79 : M_79.1 251 3 = nI (tQ (M.1 253) ty ((fSps (tS (M.1 253) ty) 2 0 6).2.1)) := by rw [eM_79, u_set1, if_pos rfl, if_neg (by decide)]; exact hqM_26.2
        have hKM_79 : mFr M M_79 := mFr_trans hKM_26 (show mFr M_26 M_79 from by rw [eM_79]; exact mFr_f (Or.inr rfl))
        refine lv_aload_n hx hb dX7_tongues_101 rfl (lv_at hl 3 rfl) ?_
        refine lv_iconst (v := 0) hx hb dX7_tongues_102 (by decide) ?_
        refine ur_puti C h 251 (by decide) (uc_251 E _) (Cn := RX7) (T := TX7) (N := 17) rfl hin7 tyX7 tyX7_ok nmX7 2 (by decide) (by decide +kernel) rfl rfl rfl (Nat.le_of_ble_eq_true rfl) (us_251_2 E _ _) dX7_tongues_103 (fun M_80 H locs eM_80 h => ?_)
        have hfM_80 : M_80.1 251 4 = 1 := by rw [eM_80, u_set1, if_pos rfl, if_neg (by decide)]; exact hfM_79
        refine lv_aload_n hx hb dX7_tongues_106 rfl (lv_at hl 3 rfl) ?_
        refine ur_get C h 251 (by decide) (uc_251 E _) (Cn := RX7) (T := TX7) (N := 17) rfl hin7 4 (by decide) (by decide +kernel) rfl dX7_tongues_107 ?_
        refine ur_eq (y := nI 1) (by rw [eM_80, u_set1, if_pos rfl, if_neg (by omega), eM_79, u_set1, if_pos rfl, if_pos rfl]; try rfl) ?_
        refine ur_eq (y := 1) rfl ?_
        refine lv_if_eq (tgt := 121) hx hb dX7_tongues_110 (by decide) (fun z => absurd z (by decide)) (fun c_81 => ?_)
        refine lv_bipush (v := (-20)) hx hb dX7_tongues_113 (by decide) ?_
        refine lv_aload_n hx hb dX7_tongues_115 rfl (lv_at hl 3 rfl) ?_
        refine ur_get C h 251 (by decide) (uc_251 E _) (Cn := RX7) (T := TX7) (N := 17) rfl hin7 3 (by decide) (by decide +kernel) rfl dX7_tongues_116 ?_
        refine ur_eq (y := nI (tQ (M.1 253) ty ((fSps (tS (M.1 253) ty) 2 0 6).2.1))) ((by rw [eM_80, u_set1, if_pos rfl, if_neg (by decide)]; exact hpM_79)) ?_
        refine lv_isub hx hb dX7_tongues_119 ?_
        exact ur_iret C h hr hlocks (⟨M_79, hKM_79, by rw [hAf, if_neg Bool.false_ne_true]; exact ⟨eM_80, rfl⟩⟩) dX7_tongues_120
  · skip
    rw [if_neg c_5] at hw_4
    obtain ⟨eM_4, er_3⟩ := hw_4
    have hkM_4 : mFr M_2 M_4 := by rw [eM_4]; exact mFr_trans (mFr_f (Or.inl rfl)) (mFr_f (Or.inr rfl))
    have h253M_4 : M_4.1 253 = M.1 253 := (hkM_4.1 253 (by decide) (by decide) (by decide)).trans (hK2.1 253 (by decide) (by decide) (by decide))
    have htyM_4 : M_4.1 251 2 = nI ty := (hkM_4.2.1 2 (by decide) (by decide)).trans ((hK2.2.1 2 (by decide) (by decide)).trans hty)
    have hKM_4 : mFr M M_4 := mFr_trans hK2 hkM_4
    have hfM_4 : M_4.1 251 4 = 1 := by rw [eM_4]; rfl
    have hpM_4 : M_4.1 251 3 = nI (tQ (M.1 253) ty (0)) := by rw [eM_4, u_set1, if_pos rfl, if_neg (by decide)]; rfl
    have hAf : (fAll (tS (M.1 253) ty)) = (false, 0) := if_neg (fun zq => c_5 ((mS_dig hlet 0).1.1.mp zq))
    refine lv_istore_n (lv' := [(1, .int r_3), (0, .ref (E.2.1 251))]) hx hb dX7_tongues_17 rfl hl (by decide) rfl (fun ls hl => ?_)
    refine lv_aload_n hx hb dX7_tongues_18 rfl (lv_at hl 1 rfl) ?_
    refine lv_aload_n hx hb dX7_tongues_19 rfl (lv_at hl 1 rfl) ?_
    refine ur_get C h 251 (by decide) (uc_251 E _) (Cn := RX7) (T := TX7) (N := 17) rfl hin7 4 (by decide) (by decide +kernel) rfl dX7_tongues_20 ?_
    refine ur_eq (y := 1) hfM_4 ?_
    refine lv_if_ne (tgt := 39) hx hb dX7_tongues_23 (by decide) (fun c_82 => ?_) (fun z => absurd z (by decide))
    refine lv_iconst (v := 0) hx hb dX7_tongues_39 (by decide) ?_
    refine ur_callVv C h (k := 251) (As := [.int 0]) (rest := []) (k_X7_must_f l E hI M_4 0 hfM_4 (tQ (M.1 253) ty (0)) hpM_4) (cwV 1 hts gX7_tongues_X7_must rfl rfl rfl (by decide +kernel) ⟨Nat.le_of_ble_eq_true rfl, Nat.le_of_ble_eq_true rfl⟩) (by decide) (uc_251 E _) (T := TX7) (N := 17) rfl rfl hl.1 rfl (Nat.le_of_ble_eq_true rfl) dX7_tongues_40 (fun M_84 H locs hw_84 h => ?_)
    have hu := hw_84
    subst hu
    refine lv_aload_n hx hb dX7_tongues_43 rfl (lv_at hl 1 rfl) ?_
    refine ur_callVi C h (k := 251) (As := []) (rest := []) (k_X7_readSpeakers_f l E hI M_4 hfM_4) (cwV 0 hts gX7_tongues_X7_readSpeakers rfl rfl rfl (by decide +kernel) ⟨Nat.le_of_ble_eq_true rfl, Nat.le_of_ble_eq_true rfl⟩) (by decide) (uc_251 E _) (T := TX7) (N := 17) rfl rfl hl.1 rfl (Nat.le_of_ble_eq_true rfl) dX7_tongues_44 (fun r_85 M_86 H locs hw_86 h => ?_)
    obtain ⟨hu, er_85⟩ := hw_86
    subst hu
    refine lv_istore_n (lv' := [(2, .int r_85), (1, .int r_3), (0, .ref (E.2.1 251))]) hx hb dX7_tongues_47 rfl hl (by decide) rfl (fun ls hl => ?_)
    refine lv_aload_n hx hb dX7_tongues_48 rfl (lv_at hl 2 rfl) ?_
    refine lv_aload_n hx hb dX7_tongues_49 rfl (lv_at hl 2 rfl) ?_
    refine ur_get C h 251 (by decide) (uc_251 E _) (Cn := RX7) (T := TX7) (N := 17) rfl hin7 4 (by decide) (by decide +kernel) rfl dX7_tongues_50 ?_
    refine ur_eq (y := 1) hfM_4 ?_
    refine lv_if_ne (tgt := 69) hx hb dX7_tongues_53 (by decide) (fun c_87 => ?_) (fun z => absurd z (by decide))
    refine lv_iconst (v := 0) hx hb dX7_tongues_69 (by decide) ?_
    refine ur_callVv C h (k := 251) (As := [.int 0]) (rest := []) (k_X7_must_f l E hI M_4 0 hfM_4 (tQ (M.1 253) ty (0)) hpM_4) (cwV 1 hts gX7_tongues_X7_must rfl rfl rfl (by decide +kernel) ⟨Nat.le_of_ble_eq_true rfl, Nat.le_of_ble_eq_true rfl⟩) (by decide) (uc_251 E _) (T := TX7) (N := 17) rfl rfl hl.1 rfl (Nat.le_of_ble_eq_true rfl) dX7_tongues_70 (fun M_89 H locs hw_89 h => ?_)
    have hu := hw_89
    subst hu
    refine lv_aload_n hx hb dX7_tongues_73 rfl (lv_at hl 2 rfl) ?_
    refine ur_callVi C h (k := 251) (As := []) (rest := []) (k_X7_readWordsOf_f l E hI M_4 hfM_4) (cwV 0 hts gX7_tongues_X7_readWordsOf rfl rfl rfl (by decide +kernel) ⟨Nat.le_of_ble_eq_true rfl, Nat.le_of_ble_eq_true rfl⟩) (by decide) (uc_251 E _) (T := TX7) (N := 17) rfl rfl hl.1 rfl (Nat.le_of_ble_eq_true rfl) dX7_tongues_74 (fun r_90 M_91 H locs hw_91 h => ?_)
    obtain ⟨hu, er_90⟩ := hw_91
    subst hu
    refine lv_istore_n (lv' := [(3, .int r_90), (2, .int r_85), (1, .int r_3), (0, .ref (E.2.1 251))]) hx hb dX7_tongues_77 rfl hl (by decide) rfl (fun ls hl => ?_)
    refine lv_aload_n hx hb dX7_tongues_78 rfl (lv_at hl 3 rfl) ?_
    refine lv_aload_n hx hb dX7_tongues_79 rfl (lv_at hl 3 rfl) ?_
    refine ur_get C h 251 (by decide) (uc_251 E _) (Cn := RX7) (T := TX7) (N := 17) rfl hin7 4 (by decide) (by decide +kernel) rfl dX7_tongues_80 ?_
    refine ur_eq (y := 1) hfM_4 ?_
    refine lv_if_ne (tgt := 93) hx hb dX7_tongues_83 (by decide) (fun c_92 => ?_) (fun z => absurd z (by decide))
    refine lv_iconst (v := 1) hx hb dX7_tongues_93 (by decide) ?_
    refine lv_goto (tgt := 98) hx hb dX7_tongues_94 (by decide) ?_
    refine ur_puti C h 251 (by decide) (uc_251 E _) (Cn := RX7) (T := TX7) (N := 17) rfl hin7 tyX7 tyX7_ok nmX7 4 (by decide) (by decide +kernel) rfl (by rfl) rfl (Nat.le_of_ble_eq_true rfl) (us_251_4 E _ _) dX7_tongues_98 (fun M_93 H locs eM_93 h => ?_)
    have hfM_93 : M_93.1 251 4 = 1 := by rw [eM_93]; rfl
    have hpM_93 : M_93.1 251 3 = nI (tQ (M.1 253) ty (0)) := by rw [eM_93, u_set1, if_pos rfl, if_neg (by decide)]; exact hpM_4
    have hKM_93 : mFr M M_93 := mFr_trans hKM_4 (show mFr M_4 M_93 from by rw [eM_93]; exact mFr_f (Or.inr rfl))
    refine lv_aload_n hx hb dX7_tongues_101 rfl (lv_at hl 3 rfl) ?_
    refine lv_iconst (v := 0) hx hb dX7_tongues_102 (by decide) ?_
    refine ur_puti C h 251 (by decide) (uc_251 E _) (Cn := RX7) (T := TX7) (N := 17) rfl hin7 tyX7 tyX7_ok nmX7 2 (by decide) (by decide +kernel) rfl rfl rfl (Nat.le_of_ble_eq_true rfl) (us_251_2 E _ _) dX7_tongues_103 (fun M_94 H locs eM_94 h => ?_)
    have hfM_94 : M_94.1 251 4 = 1 := by rw [eM_94, u_set1, if_pos rfl, if_neg (by decide)]; exact hfM_93
    refine lv_aload_n hx hb dX7_tongues_106 rfl (lv_at hl 3 rfl) ?_
    refine ur_get C h 251 (by decide) (uc_251 E _) (Cn := RX7) (T := TX7) (N := 17) rfl hin7 4 (by decide) (by decide +kernel) rfl dX7_tongues_107 ?_
    refine ur_eq (y := nI 1) (by rw [eM_94, u_set1, if_pos rfl, if_neg (by omega), eM_93, u_set1, if_pos rfl, if_pos rfl]; try rfl) ?_
    refine ur_eq (y := 1) rfl ?_
    refine lv_if_eq (tgt := 121) hx hb dX7_tongues_110 (by decide) (fun z => absurd z (by decide)) (fun c_95 => ?_)
    refine lv_bipush (v := (-20)) hx hb dX7_tongues_113 (by decide) ?_
    refine lv_aload_n hx hb dX7_tongues_115 rfl (lv_at hl 3 rfl) ?_
    refine ur_get C h 251 (by decide) (uc_251 E _) (Cn := RX7) (T := TX7) (N := 17) rfl hin7 3 (by decide) (by decide +kernel) rfl dX7_tongues_116 ?_
    refine ur_eq (y := nI (tQ (M.1 253) ty (0))) ((by rw [eM_94, u_set1, if_pos rfl, if_neg (by decide)]; exact hpM_93)) ?_
    refine lv_isub hx hb dX7_tongues_119 ?_
    exact ur_iret C h hr hlocks (⟨M_93, hKM_93, by rw [hAf, if_neg Bool.false_ne_true]; exact ⟨eM_94, rfl⟩⟩) dX7_tongues_120
