set_option maxHeartbeats 1000000 in
set_option maxRecDepth 100000 in
theorem k_X7_readSpeakers (l : Launch) (E : uE) (hI : uI E) (M : uM) (ty : Nat) (hty : M.1 251 2 = nI ty) (hty90 : ty ≤ 90) (p : Nat) (hp : M.1 251 3 = nI p) (hpt : p ≤ ty) (m : Nat) (hpm : tSk (M.1 253) ty p = tQ (M.1 253) ty m) (hf : M.1 251 4 = 0) (hlet : mLet (M.1 253) ty) (hNm : (tN (M.1 253) ty (m)) ≤ ty) : Met l yX7_readSpeakers wsX7_readSpeakers ({ frames := 2, cells := 0, slots := 0, locals := 48 }) (va_Pc [.ref (E.2.1 251)] (uB E M)) (va_Qi (fun r u => mFr M u ∧ u.1 255 = M.1 255 ∧ mSpsPost (tS (M.1 253) ty) (M.1 253) ty u r m (fSps (tS (M.1 253) ty) m 0 6)) (uP E) (uA E)) 0 0 (uA E) := by
  have hin7 : ∀ w ∈ wsX70, w ∈ wsX7_readSpeakers := by decide +kernel
  refine u_start (cc := cX7_readSpeakers) (maxL := 6) (ret := (some .int)) hI (by decide) rfl (Nat.le_of_ble_eq_true rfl) ?_
  intro p_ e_ s_ m_ bl_ me_ c_ C hr hlocks h ls hl
  have hx := C.1.1
  have hb := C.1.2.1
  have hown : s_.vm.findClass RX7 = some m_.cls := C.1.2.2.2.1
  have hts := C.1.2.2.2.2
  have hl : lv_has ls 6 [(0, .ref (E.2.1 251))] := hl
  refine lv_iconst (v := 0) hx hb dX7_readSpeakers_0 (by decide) ?_
  refine lv_istore_n (lv' := [(1, .int 0), (0, .ref (E.2.1 251))]) hx hb dX7_readSpeakers_1 rfl hl (by decide) rfl (fun ls hl => ?_)
  refine lv_aload_n hx hb dX7_readSpeakers_2 rfl (lv_at hl 1 rfl) ?_
  refine ur_get C h 251 (by decide) (uc_251 E _) (Cn := RX7) (T := TX7) (N := 17) rfl hin7 4 (by decide) (by decide +kernel) rfl dX7_readSpeakers_3 ?_
  refine ur_eq (y := 0) hf ?_
  refine lv_if_ne (tgt := 210) hx hb dX7_readSpeakers_6 (by decide) (fun z => absurd z (by decide)) (fun c_1 => ?_)
  refine lv_iload_n hx hb dX7_readSpeakers_9 rfl (lv_at hl 0 rfl) ?_
  refine lv_if_eq (tgt := 22) hx hb dX7_readSpeakers_10 (by decide) (fun c_2 => ?_) (fun z => absurd z (by decide))
  have lp22 : ∀ (n22 : Nat) (i pl : Nat) (Mi : uM), 7 - i < n22 → (i ≤ 6) → (mFr M Mi ∧ Mi.1 255 = M.1 255) → (Mi.1 251 4 = 0) → (Mi.1 251 3 = nI pl) → (pl ≤ ty) → ((i = 0 ∧ tSk (M.1 253) ty pl = (tQ (M.1 253) ty (m))) ∨ (0 < i ∧ pl = (tQ (M.1 253) ty (m + 9 * i - 1)))) → ((tN (M.1 253) ty (m + 9 * i)) ≤ ty) → (∀ t, t < i → mDat (tS (M.1 253) ty) Mi t (m + 9 * t)) → (fSps (tS (M.1 253) ty) m 0 6 = if i < 6 then fSps (tS (M.1 253) ty) (m + 9 * i) i (6 - i) else (false, m + 9 * i - 1, i)) → ∀ (H : Heap) (locs : List Loc) (ls : Array Slot), uH E Mi s_ H locs → lv_has ls 6 [(1, .int (nI i)), (0, .ref (E.2.1 251))] → W p_ l e_ ({ frames := 2, cells := 0, slots := 0, locals := 48 }) s_ m_ (List.toArray [.ref (E.2.1 251)]) bl_ me_ c_ H locs 0 0 (MQ bl_ (va_Qi (fun r u => mFr M u ∧ u.1 255 = M.1 255 ∧ mSpsPost (tS (M.1 253) ty) (M.1 253) ty u r m (fSps (tS (M.1 253) ty) m 0 6)) (uP E) (uA E)) (List.toArray [.ref (E.2.1 251)]) s_ 0 0 (uA E)) (F0 m_ 22 ls []) := by
    intro n22
    induction n22 with
    | zero => intro i pl Mi hms; exact absurd hms (Nat.not_lt_zero _)
    | succ n22 ih22 =>
      intro i pl Mi hms22 hi hK0 hfi hpi hplt hc hNi hdat hA H locs ls h hl
      have jn108 : ∀ (cc kd : Int32) (Mh : uM), (i < 6) → (kd = mKind (tS (M.1 253) ty (m + 9 * i))) → (mK Mi Mh i) → (Mh.1 251 4 = 0) → (Mh.1 251 3 = nI (tQ (M.1 253) ty (m + 9 * i))) → (fSps (tS (M.1 253) ty) m 0 6 = fSps (tS (M.1 253) ty) (m + 9 * i) i (6 - i)) → ∀ (H : Heap) (locs : List Loc) (ls : Array Slot), uH E Mh s_ H locs → lv_has ls 6 [(2, .int cc), (1, .int (nI i)), (0, .ref (E.2.1 251))] → W p_ l e_ ({ frames := 2, cells := 0, slots := 0, locals := 48 }) s_ m_ (List.toArray [.ref (E.2.1 251)]) bl_ me_ c_ H locs 0 0 (MQ bl_ (va_Qi (fun r u => mFr M u ∧ u.1 255 = M.1 255 ∧ mSpsPost (tS (M.1 253) ty) (M.1 253) ty u r m (fSps (tS (M.1 253) ty) m 0 6)) (uP E) (uA E)) (List.toArray [.ref (E.2.1 251)]) s_ 0 0 (uA E)) (F0 m_ 108 ls [.int kd]) := by
        intro cc kd Mh hi5 hkd hKh hfh hph hA1 H locs ls h hl
        refine lv_istore_n (lv' := [(3, .int kd), (2, .int cc), (1, .int (nI i)), (0, .ref (E.2.1 251))]) hx hb dX7_readSpeakers_108 rfl hl (by decide) rfl (fun ls hl => ?_)
        refine lv_aload_n hx hb dX7_readSpeakers_109 rfl (lv_at hl 3 rfl) ?_
        refine lv_iload_n hx hb dX7_readSpeakers_110 rfl (lv_at hl 0 rfl) ?_
        refine lv_if_lt (tgt := 118) hx hb dX7_readSpeakers_111 (by decide) (fun c_3 => ?_) (fun c_3 => ?_)
        · skip
          have hbk : ¬ 0 ≤ tIx 3 (tS (M.1 253) ty (m + 9 * i)) := fun zq => absurd ((mS_kind hlet (m + 9 * i)).1.mp zq) (by rw [← hkd]; exact Int32.not_le.mpr c_3)
          have hfr : fRun (tS (M.1 253) ty) (m + 9 * i) 0 8 = 0 := fRun_b (j := 0) (f := 7) (show ¬ 0 ≤ tIx 3 ((tS (M.1 253) ty) (m + 9 * i)) from hbk)
          have hAf : fSps (tS (M.1 253) ty) m 0 6 = (false, m + 9 * i, i) := by rw [hA1, show 6 - i = 6 - (i + 1) + 1 by omega, fSps_b (by omega), hfr]; rfl
          refine lv_iconst (v := 0) hx hb dX7_readSpeakers_118 (by decide) ?_
          refine ur_callVv C h (k := 251) (As := [.int 0]) (rest := []) (k_X7_must_n l E hI Mh hfh (tQ (M.1 253) ty (m + 9 * i)) hph) (cwV 1 hts gX7_readSpeakers_X7_must rfl rfl rfl (by decide +kernel) ⟨Nat.le_of_ble_eq_true rfl, Nat.le_of_ble_eq_true rfl⟩) (by decide) (uc_251 E _) (T := TX7) (N := 17) rfl rfl hl.1 rfl (Nat.le_of_ble_eq_true rfl) dX7_readSpeakers_119 (fun M_5 H locs hw_5 h => ?_)
          have eM_5 := hw_5
          have hfM_5 : M_5.1 251 4 = 1 := by rw [eM_5]; rfl
          have hpM_5 : M_5.1 251 3 = nI (tQ (M.1 253) ty (m + 9 * i)) := by rw [eM_5, u_set1, if_pos rfl, if_neg (by decide)]; exact hph
          have hkM_5 : mK Mh M_5 i := by rw [eM_5]; exact mK_f (by decide)
          have hKM_5 : mK Mi M_5 i := mK_trans hKh hkM_5
          refine lv_aload_n hx hb dX7_readSpeakers_122 rfl (lv_at hl 3 rfl) ?_
          refine lv_iconst (v := 0) hx hb dX7_readSpeakers_123 (by decide) ?_
          refine lv_iconst (v := 1) hx hb dX7_readSpeakers_124 (by decide) ?_
          refine ur_callVi C h (k := 251) (As := [.int 0, .int 1]) (rest := []) (k_X7_digit_f l E hI M_5 0 1 hfM_5 (tQ (M.1 253) ty (m + 9 * i)) hpM_5) (cwV 2 hts gX7_readSpeakers_X7_digit rfl rfl rfl (by decide +kernel) ⟨Nat.le_of_ble_eq_true rfl, Nat.le_of_ble_eq_true rfl⟩) (by decide) (uc_251 E _) (T := TX7) (N := 17) rfl rfl hl.1 rfl (Nat.le_of_ble_eq_true rfl) dX7_readSpeakers_125 (fun r_6 M_7 H locs hw_7 h => ?_)
          obtain ⟨hu, er_6⟩ := hw_7
          subst hu
          refine lv_istore (lv' := [(4, .int r_6), (3, .int kd), (2, .int cc), (1, .int (nI i)), (0, .ref (E.2.1 251))]) hx hb dX7_readSpeakers_128 hl (by decide) rfl (fun ls hl => ?_)
          refine lv_iconst (v := 0) hx hb dX7_readSpeakers_130 (by decide) ?_
          refine lv_istore (lv' := [(5, .int 0), (4, .int r_6), (3, .int kd), (2, .int cc), (1, .int (nI i)), (0, .ref (E.2.1 251))]) hx hb dX7_readSpeakers_131 hl (by decide) rfl (fun ls hl => ?_)
          refine lv_iload hx hb dX7_readSpeakers_133 (lv_at hl 0 rfl) ?_
          refine lv_bipush (v := 6) hx hb dX7_readSpeakers_135 (by decide) ?_
          refine lv_icmp_ge (tgt := 174) hx hb dX7_readSpeakers_137 (by decide) (fun z => absurd z (by decide)) (fun c_8 => ?_)
          refine lv_aload_n hx hb dX7_readSpeakers_140 rfl (lv_at hl 5 rfl) ?_
          refine ur_get C h 251 (by decide) (uc_251 E _) (Cn := RX7) (T := TX7) (N := 17) rfl hin7 4 (by decide) (by decide +kernel) rfl dX7_readSpeakers_141 ?_
          refine ur_eq (y := 1) hfM_5 ?_
          refine lv_if_ne (tgt := 174) hx hb dX7_readSpeakers_144 (by decide) (fun c_9 => ?_) (fun z => absurd z (by decide))
          refine lv_aload_n hx hb dX7_readSpeakers_174 rfl (lv_at hl 5 rfl) ?_
          refine ur_get C h 251 (by decide) (uc_251 E _) (Cn := RX7) (T := TX7) (N := 17) rfl hin7 4 (by decide) (by decide +kernel) rfl dX7_readSpeakers_175 ?_
          refine ur_eq (y := 1) hfM_5 ?_
          refine lv_if_ne (tgt := 204) hx hb dX7_readSpeakers_178 (by decide) (fun c_10 => ?_) (fun z => absurd z (by decide))
          refine lv_iinc (v := nI (i + 1)) (lv' := [(1, .int (nI (i + 1))), (5, .int 0), (4, .int r_6), (3, .int kd), (2, .int cc), (0, .ref (E.2.1 251))]) hx hb dX7_readSpeakers_204 hl (k := 4) rfl (nI_add i 1) (by decide) rfl (fun ls hl => ?_)
          refine lv_goto (tgt := 2) hx hb dX7_readSpeakers_207 (by decide) ?_
          refine lv_aload_n hx hb dX7_readSpeakers_2 rfl (lv_at hl 5 rfl) ?_
          refine ur_get C h 251 (by decide) (uc_251 E _) (Cn := RX7) (T := TX7) (N := 17) rfl hin7 4 (by decide) (by decide +kernel) rfl dX7_readSpeakers_3 ?_
          refine ur_eq (y := 1) hfM_5 ?_
          refine lv_if_ne (tgt := 210) hx hb dX7_readSpeakers_6 (by decide) (fun c_11 => ?_) (fun z => absurd z (by decide))
          refine lv_iload_n hx hb dX7_readSpeakers_210 rfl (lv_at hl 0 rfl) ?_
          exact ur_iret C h hr hlocks (⟨mFr_trans hK0.1 hKM_5.1, hKM_5.2.1.trans hK0.2, by unfold mSpsPost; rw [hAf, if_neg Bool.false_ne_true]; exact ⟨hfM_5, hpM_5⟩⟩) dX7_readSpeakers_211
        · skip
          have hgk : 0 ≤ tIx 3 (tS (M.1 253) ty (m + 9 * i)) := (mS_kind hlet (m + 9 * i)).1.mpr (by rw [← hkd]; exact Int32.not_lt.mp c_3)
          refine lv_iconst (v := 1) hx hb dX7_readSpeakers_114 (by decide) ?_
          refine lv_goto (tgt := 119) hx hb dX7_readSpeakers_115 (by decide) ?_
          refine ur_callVv C h (k := 251) (As := [.int 1]) (rest := []) (k_X7_must_t l E hI Mh hfh (tQ (M.1 253) ty (m + 9 * i)) hph) (cwV 1 hts gX7_readSpeakers_X7_must rfl rfl rfl (by decide +kernel) ⟨Nat.le_of_ble_eq_true rfl, Nat.le_of_ble_eq_true rfl⟩) (by decide) (uc_251 E _) (T := TX7) (N := 17) rfl rfl hl.1 rfl (Nat.le_of_ble_eq_true rfl) dX7_readSpeakers_119 (fun M_13 H locs hw_13 h => ?_)
          have eM_13 := hw_13
          have hfM_13 : M_13.1 251 4 = 0 := by rw [eM_13, u_set1, if_pos rfl, if_neg (by decide)]; exact hfh
          have hpM_13 : M_13.1 251 3 = nI ((tQ (M.1 253) ty (m + 9 * i)) + 1) := by rw [eM_13]; rfl
          have hkM_13 : mK Mh M_13 i := by rw [eM_13]; exact mK_f (by decide)
          have hKM_13 : mK Mi M_13 i := mK_trans hKh hkM_13
          have hqk : (tN (M.1 253) ty (m + 9 * i + 1)) ≤ ty := t_lt (k := 3) (by decide) (by decide) hgk
          have hpqM_13 : M_13.1 251 3 = nI (tN (M.1 253) ty (m + 9 * i + 1)) := hpM_13
          have h253M_13 : M_13.1 253 = M.1 253 := (show M_13.1 253 = Mh.1 253 from by rw [eM_13]; rfl).trans (hKh.1.1 253 (by decide) (by decide) (by decide) |>.trans (hK0.1.1 253 (by decide) (by decide) (by decide)))
          have htyM_13 : M_13.1 251 2 = nI ty := by rw [eM_13]; exact ((hKh.1.2.1 2 (by decide) (by decide)).trans ((hK0.1.2.1 2 (by decide) (by decide)).trans hty))
          refine lv_aload_n hx hb dX7_readSpeakers_122 rfl (lv_at hl 3 rfl) ?_
          refine lv_iconst (v := 0) hx hb dX7_readSpeakers_123 (by decide) ?_
          refine lv_iconst (v := 1) hx hb dX7_readSpeakers_124 (by decide) ?_
          refine ur_callVi C h (k := 251) (As := [.int 0, .int 1]) (rest := []) (k_X7_digit_n l E hI M_13 0 1 ty htyM_13 hty90 (tN (M.1 253) ty (m + 9 * i + 1)) hpqM_13 hqk (m + 9 * i + 1) (by rw [h253M_13]; exact rfl) hfM_13) (cwV 2 hts gX7_readSpeakers_X7_digit rfl rfl rfl (by decide +kernel) ⟨Nat.le_of_ble_eq_true rfl, Nat.le_of_ble_eq_true rfl⟩) (by decide) (uc_251 E _) (T := TX7) (N := 17) rfl rfl hl.1 rfl (Nat.le_of_ble_eq_true rfl) dX7_readSpeakers_125 (fun r_14 M_15 H locs hw_15 h => ?_)
          rw [h253M_13] at hw_15
          rcases Decidable.em ((0 : Int32).toInt ≤ ((tS (M.1 253) ty (m + 9 * i + 1)) - 48).toInt ∧ ((tS (M.1 253) ty (m + 9 * i + 1)) - 48).toInt ≤ (1 : Int32).toInt) with c_16 | c_16
          · skip
            rw [if_pos c_16] at hw_15
            obtain ⟨eM_15, er_14⟩ := hw_15
            have h253M_15 : M_15.1 253 = M.1 253 := (show M_15.1 253 = M_13.1 253 from by rw [eM_15]; rfl).trans h253M_13
            have htyM_15 : M_15.1 251 2 = nI ty := by rw [eM_15]; exact htyM_13
            have hKM_15 : mK Mi M_15 i := mK_trans hKM_13 (show mK M_13 M_15 i from by rw [eM_15]; exact mK_f (Or.inl rfl))
            have hfM_15 : M_15.1 251 4 = 0 := by rw [eM_15, u_set1, if_pos rfl, if_neg (by decide)]; exact hfM_13
            have hpM_15 : M_15.1 251 3 = nI (tN (M.1 253) ty (m + 9 * i + 1 + 1)) := by rw [eM_15]; rfl
            have hgM_15 : 0 ≤ tIx 4 (tS (M.1 253) ty (m + 9 * i + 1)) := (mS_dig hlet (m + 9 * i + 1)).2.1.mpr c_16
            have hvM_15 : r_14 = tIx 4 (tS (M.1 253) ty (m + 9 * i + 1)) := er_14.trans ((mS_dig hlet (m + 9 * i + 1)).2.2 hgM_15).symm
            have hqM_15 : (tN (M.1 253) ty (m + 9 * i + 1 + 1)) ≤ ty := t_lt (k := 4) (by decide) (by decide) hgM_15
            refine lv_istore (lv' := [(4, .int r_14), (3, .int kd), (2, .int cc), (1, .int (nI i)), (0, .ref (E.2.1 251))]) hx hb dX7_readSpeakers_128 hl (by decide) rfl (fun ls hl => ?_)
            refine lv_iconst (v := 0) hx hb dX7_readSpeakers_130 (by decide) ?_
            refine lv_istore (lv' := [(5, .int 0), (4, .int r_14), (3, .int kd), (2, .int cc), (1, .int (nI i)), (0, .ref (E.2.1 251))]) hx hb dX7_readSpeakers_131 hl (by decide) rfl (fun ls hl => ?_)
            have lp133 : ∀ (n133 : Nat) (j : Nat) (Mj : uM), 6 - j < n133 → (j ≤ 6) → (mK Mi Mj i) → (Mj.1 251 4 = 0) → (Mj.1 251 3 = nI (tN (M.1 253) ty (m + 9 * i + 2 + j))) → ((tN (M.1 253) ty (m + 9 * i + 2 + j)) ≤ ty) → (∀ t, t < j → Mj.1 254 (8 * i + 2 + t) = tIx 0 (tS (M.1 253) ty (m + 9 * i + 2 + t))) → (fRun (tS (M.1 253) ty) (m + 9 * i) (2 + j) (6 - j) = fRun (tS (M.1 253) ty) (m + 9 * i) 0 8) → ∀ (H : Heap) (locs : List Loc) (ls : Array Slot), uH E Mj s_ H locs → lv_has ls 6 [(5, .int (nI j)), (4, .int r_14), (3, .int kd), (2, .int cc), (1, .int (nI i)), (0, .ref (E.2.1 251))] → W p_ l e_ ({ frames := 2, cells := 0, slots := 0, locals := 48 }) s_ m_ (List.toArray [.ref (E.2.1 251)]) bl_ me_ c_ H locs 0 0 (MQ bl_ (va_Qi (fun r u => mFr M u ∧ u.1 255 = M.1 255 ∧ mSpsPost (tS (M.1 253) ty) (M.1 253) ty u r m (fSps (tS (M.1 253) ty) m 0 6)) (uP E) (uA E)) (List.toArray [.ref (E.2.1 251)]) s_ 0 0 (uA E)) (F0 m_ 133 ls []) := by
              intro n133
              induction n133 with
              | zero => intro j Mj hms; exact absurd hms (Nat.not_lt_zero _)
              | succ n133 ih133 =>
                intro j Mj hms133 hj hKj hfj hpj hNj hcj hrun H locs ls h hl
                refine lv_iload hx hb dX7_readSpeakers_133 (lv_at hl 0 rfl) ?_
                refine lv_bipush (v := 6) hx hb dX7_readSpeakers_135 (by decide) ?_
                refine lv_icmp_ge (tgt := 174) hx hb dX7_readSpeakers_137 (by decide) (fun c_17 => ?_) (fun c_17 => ?_)
                · skip
                  have c_17 : 6 ≤ j := (nI_leI (a := 6) (b := j) (by omega) (by omega)).mp c_17
                  have hj6 : j = 6 := by omega
                  have h8 : fRun (tS (M.1 253) ty) (m + 9 * i) 0 8 = 8 := by rw [← hrun, hj6]; rfl
                  have hA2 : fSps (tS (M.1 253) ty) m 0 6 = fAft (tS (M.1 253) ty) (m + 9 * i + 8) (i + 1) (5 - i) := by rw [hA1, show 6 - i = 5 - i + 1 by omega, fSps_g h8]
                  have hpj8 : Mj.1 251 3 = nI (tN (M.1 253) ty (m + 9 * i + 8)) := by rw [hpj, hj6]
                  have hN8 : (tN (M.1 253) ty (m + 9 * i + 8)) ≤ ty := by have := hNj; rw [hj6] at this; exact this
                  refine lv_aload_n hx hb dX7_readSpeakers_174 rfl (lv_at hl 5 rfl) ?_
                  refine ur_get C h 251 (by decide) (uc_251 E _) (Cn := RX7) (T := TX7) (N := 17) rfl hin7 4 (by decide) (by decide +kernel) rfl dX7_readSpeakers_175 ?_
                  refine ur_eq (y := 0) hfj ?_
                  refine lv_if_ne (tgt := 204) hx hb dX7_readSpeakers_178 (by decide) (fun z => absurd z (by decide)) (fun c_18 => ?_)
                  refine lv_aload_n hx hb dX7_readSpeakers_181 rfl (lv_at hl 5 rfl) ?_
                  refine ur_get C h 251 (by decide) (uc_251 E _) (Cn := RX7) (T := TX7) (N := 17) rfl hin7 5 (by decide) (by decide +kernel) rfl dX7_readSpeakers_182 ?_
                  refine lv_bipush (v := 8) hx hb dX7_readSpeakers_185 (by decide) ?_
                  refine lv_iload_n hx hb dX7_readSpeakers_187 rfl (lv_at hl 4 rfl) ?_
                  refine lv_imul hx hb dX7_readSpeakers_188 ?_
                  refine ur_eq (y := nI (8 * i)) (pk_mul 8 i) ?_
                  refine lv_iload_n hx hb dX7_readSpeakers_189 rfl (lv_at hl 2 rfl) ?_
                  refine ur_iast C h 254 (by decide) (uc_254 E) (8 * i) (by omega) (by decide) dX7_readSpeakers_190 (fun M_19 H locs eM_19 h => ?_)
                  have hfM_19 : M_19.1 251 4 = 0 := by rw [eM_19, u_set_far (by decide)]; exact hfj
                  have hpM_19 : M_19.1 251 3 = nI (tN (M.1 253) ty (m + 9 * i + 8)) := by rw [eM_19, u_set_far (by decide)]; exact hpj8
                  have hKM_19 : mK Mi M_19 i := mK_trans hKj (show mK Mj M_19 i from by rw [eM_19]; exact mK_r (by omega))
                  have h253M_19 : M_19.1 253 = M.1 253 := (show M_19.1 253 = Mj.1 253 from by rw [eM_19]; rfl).trans (hKj.1.1 253 (by decide) (by decide) (by decide) |>.trans (hK0.1.1 253 (by decide) (by decide) (by decide)))
                  have htyM_19 : M_19.1 251 2 = nI ty := by rw [eM_19]; exact ((hKj.1.2.1 2 (by decide) (by decide)).trans ((hK0.1.2.1 2 (by decide) (by decide)).trans hty))
                  refine lv_aload_n hx hb dX7_readSpeakers_191 rfl (lv_at hl 5 rfl) ?_
                  refine ur_get C h 251 (by decide) (uc_251 E _) (Cn := RX7) (T := TX7) (N := 17) rfl hin7 5 (by decide) (by decide +kernel) rfl dX7_readSpeakers_192 ?_
                  refine lv_bipush (v := 8) hx hb dX7_readSpeakers_195 (by decide) ?_
                  refine lv_iload_n hx hb dX7_readSpeakers_197 rfl (lv_at hl 4 rfl) ?_
                  refine lv_imul hx hb dX7_readSpeakers_198 ?_
                  refine ur_eq (y := nI (8 * i)) (pk_mul 8 i) ?_
                  refine lv_iconst (v := 1) hx hb dX7_readSpeakers_199 (by decide) ?_
                  refine lv_iadd hx hb dX7_readSpeakers_200 ?_
                  refine ur_eq (y := nI (8 * i + 1)) (nI_add (8 * i) 1) ?_
                  refine lv_iload hx hb dX7_readSpeakers_201 (lv_at hl 1 rfl) ?_
                  refine ur_iast C h 254 (by decide) (uc_254 E) (8 * i + 1) (by omega) (by decide) dX7_readSpeakers_203 (fun M_20 H locs eM_20 h => ?_)
                  have hfM_20 : M_20.1 251 4 = 0 := by rw [eM_20, u_set_far (by decide)]; exact hfM_19
                  have hpM_20 : M_20.1 251 3 = nI (tN (M.1 253) ty (m + 9 * i + 8)) := by rw [eM_20, u_set_far (by decide)]; exact hpM_19
                  have hKM_20 : mK Mi M_20 i := mK_trans hKM_19 (show mK M_19 M_20 i from by rw [eM_20]; exact mK_r (by omega))
                  have h253M_20 : M_20.1 253 = M.1 253 := (show M_20.1 253 = M_19.1 253 from by rw [eM_20]; rfl).trans h253M_19
                  have htyM_20 : M_20.1 251 2 = nI ty := by rw [eM_20]; exact htyM_19
                  have hd0 : mDat (tS (M.1 253) ty) M_20 i (m + 9 * i) := ⟨by rw [eM_20, u_set1, if_pos rfl, if_neg (by omega), eM_19, u_set1, if_pos rfl, if_pos rfl, hkd]; exact ((mS_kind hlet (m + 9 * i)).2 hgk).symm, by rw [eM_20, u_set1, if_pos rfl, if_pos rfl]; exact hvM_15, fun t ht => by rw [eM_20, u_set1, if_pos rfl, if_neg (by omega), eM_19, u_set1, if_pos rfl, if_neg (by omega)]; exact hcj t (by omega)⟩
                  have hdN : ∀ t, t < i + 1 → mDat (tS (M.1 253) ty) M_20 t (m + 9 * t) := fun t ht => by rcases Nat.lt_or_ge t i with zt | zt; exact mDat_keep hKM_20 zt (hdat t zt); (rw [show t = i by omega]; exact hd0)
                  refine lv_iinc (v := nI (i + 1)) (lv' := [(1, .int (nI (i + 1))), (5, .int (nI j)), (4, .int r_14), (3, .int kd), (2, .int cc), (0, .ref (E.2.1 251))]) hx hb dX7_readSpeakers_204 hl (k := 4) rfl (nI_add i 1) (by decide) rfl (fun ls hl => ?_)
                  refine lv_goto (tgt := 2) hx hb dX7_readSpeakers_207 (by decide) ?_
                  refine lv_aload_n hx hb dX7_readSpeakers_2 rfl (lv_at hl 5 rfl) ?_
                  refine ur_get C h 251 (by decide) (uc_251 E _) (Cn := RX7) (T := TX7) (N := 17) rfl hin7 4 (by decide) (by decide +kernel) rfl dX7_readSpeakers_3 ?_
                  refine ur_eq (y := 0) hfM_20 ?_
                  refine lv_if_ne (tgt := 210) hx hb dX7_readSpeakers_6 (by decide) (fun z => absurd z (by decide)) (fun c_21 => ?_)
                  refine lv_iload_n hx hb dX7_readSpeakers_9 rfl (lv_at hl 0 rfl) ?_
                  refine lv_if_eq (tgt := 22) hx hb dX7_readSpeakers_10 (by decide) (fun c_22 => ?_) (fun c_22 => ?_)
                  · skip
                    have c_22 : (i + 1) = 0 := (nI_eq (a := (i + 1)) (b := 0) (by omega) (by omega)).mp c_22
                    exact ih22  (i + 1) 0 M_20 (by omega) (absurd c_22 (by omega)) (absurd c_22 (by omega)) (absurd c_22 (by omega)) (absurd c_22 (by omega)) (absurd c_22 (by omega)) (absurd c_22 (by omega)) (absurd c_22 (by omega)) (absurd c_22 (by omega)) (absurd c_22 (by omega)) _ _ _ h (lv_sub hl [0, 5] rfl)
                  · skip
                    have c_22 : ¬ (i + 1) = 0 := fun z => c_22 ((nI_eq (a := (i + 1)) (b := 0) (by omega) (by omega)).mpr z)
                    refine lv_aload_n hx hb dX7_readSpeakers_13 rfl (lv_at hl 5 rfl) ?_
                    refine ur_callVi C h (k := 251) (As := []) (rest := []) (k_X7_here l E hI M_20 ty htyM_20 hty90 (tN (M.1 253) ty (m + 9 * i + 8)) hpM_20 hN8) (cwV 0 hts gX7_readSpeakers_X7_here rfl rfl rfl (by decide +kernel) ⟨Nat.le_of_ble_eq_true rfl, Nat.le_of_ble_eq_true rfl⟩) (by decide) (uc_251 E _) (T := TX7) (N := 17) rfl rfl hl.1 rfl (Nat.le_of_ble_eq_true rfl) dX7_readSpeakers_14 (fun r_23 M_24 H locs hw_24 h => ?_)
                    obtain ⟨eM_24, er_23⟩ := hw_24
                    rw [h253M_20] at eM_24 er_23
                    rw [tAt_of rfl] at er_23
                    rw [show tSk (M.1 253) ty (tN (M.1 253) ty (m + 9 * i + 8)) = (tQ (M.1 253) ty (m + 9 * i + 8)) from rfl] at eM_24
                    have hfM_24 : M_24.1 251 4 = 0 := by rw [eM_24, u_set1, if_pos rfl, if_neg (by decide)]; exact hfM_20
                    have hpM_24 : M_24.1 251 3 = nI (tQ (M.1 253) ty (m + 9 * i + 8)) := by rw [eM_24]; rfl
                    have h253M_24 : M_24.1 253 = M.1 253 := (show M_24.1 253 = M_20.1 253 from by rw [eM_24, u_set_far (by decide)]).trans h253M_20
                    have htyM_24 : M_24.1 251 2 = nI ty := by rw [eM_24, u_set1, if_pos rfl, if_neg (by decide)]; exact htyM_20
                    have hkM_24 : mK M_20 M_24 i := by rw [eM_24]; exact mK_f (by decide)
                    have hKM_24 : mK Mi M_24 i := mK_trans hKM_20 hkM_24
                    refine ur_eq (y := (tS (M.1 253) ty (m + 9 * i + 8))) er_23 ?_
                    refine lv_bipush (v := 44) hx hb dX7_readSpeakers_17 (by decide) ?_
                    refine lv_icmp_ne (tgt := 210) hx hb dX7_readSpeakers_19 (by decide) (fun c_25 => ?_) (fun c_25 => ?_)
                    · skip
                      have hgn : ¬ 0 ≤ tIx 2 (tS (M.1 253) ty (m + 9 * i + 8)) := fun zq => c_25 ((mS_sep hlet (m + 9 * i + 8)).1.mp zq)
                      refine lv_iload_n hx hb dX7_readSpeakers_210 rfl (lv_at hl 0 rfl) ?_
                      exact ur_iret C h hr hlocks (⟨mFr_trans hK0.1 hKM_24.1, hKM_24.2.1.trans hK0.2, by unfold mSpsPost; rw [hA2, fAft_n hgn, if_pos rfl]; exact ⟨hfM_24, hpM_24, hN8, rfl, fun t ht => by rw [eM_24]; exact mDat_keep (n := i + 1) (mK_f (Or.inl rfl)) ht (hdN t ht)⟩⟩) dX7_readSpeakers_211
                    · skip
                      have hgc : 0 ≤ tIx 2 (tS (M.1 253) ty (m + 9 * i + 8)) := (mS_sep hlet (m + 9 * i + 8)).1.mpr c_25
                      exact ih22  (i + 1) (tQ (M.1 253) ty (m + 9 * i + 8)) M_24 (by omega) (by omega) ⟨mFr_trans hK0.1 hKM_24.1, hKM_24.2.1.trans hK0.2⟩ hfM_24 hpM_24 (tQ_le hN8) (Or.inr ⟨by omega, by rw [show m + 9 * (i + 1) - 1 = m + 9 * i + 8 by omega]⟩) (by rw [show m + 9 * (i + 1) = m + 9 * i + 8 + 1 by omega]; exact t_lt (k := 2) (by decide) (by decide) hgc) (fun t ht => by rw [eM_24]; exact mDat_keep (n := i + 1) (mK_f (Or.inl rfl)) ht (hdN t ht)) (by rw [hA2, show m + 9 * (i + 1) - 1 = m + 9 * i + 8 by omega]; by_cases z6 : i + 1 < 6; (rw [if_pos z6, fAft_c hgc (by omega), show m + 9 * (i + 1) = m + 9 * i + 8 + 1 by omega, show 6 - (i + 1) = 5 - i by omega]); (rw [if_neg z6, show 5 - i = 0 by omega]; exact (fAft_0 _ _ _).2 hgc)) _ _ _ h (lv_sub hl [0, 5] rfl)
                · skip
                  have c_17 : ¬ 6 ≤ j := fun z => c_17 ((nI_leI (a := 6) (b := j) (by omega) (by omega)).mpr z)
                  refine lv_aload_n hx hb dX7_readSpeakers_140 rfl (lv_at hl 5 rfl) ?_
                  refine ur_get C h 251 (by decide) (uc_251 E _) (Cn := RX7) (T := TX7) (N := 17) rfl hin7 4 (by decide) (by decide +kernel) rfl dX7_readSpeakers_141 ?_
                  refine ur_eq (y := 0) hfj ?_
                  refine lv_if_ne (tgt := 174) hx hb dX7_readSpeakers_144 (by decide) (fun z => absurd z (by decide)) (fun c_26 => ?_)
                  refine lv_aload_n hx hb dX7_readSpeakers_147 rfl (lv_at hl 5 rfl) ?_
                  refine ur_get C h 251 (by decide) (uc_251 E _) (Cn := RX7) (T := TX7) (N := 17) rfl hin7 5 (by decide) (by decide +kernel) rfl dX7_readSpeakers_148 ?_
                  refine lv_bipush (v := 8) hx hb dX7_readSpeakers_151 (by decide) ?_
                  refine lv_iload_n hx hb dX7_readSpeakers_153 rfl (lv_at hl 4 rfl) ?_
                  refine lv_imul hx hb dX7_readSpeakers_154 ?_
                  refine ur_eq (y := nI (8 * i)) (pk_mul 8 i) ?_
                  refine lv_iconst (v := 2) hx hb dX7_readSpeakers_155 (by decide) ?_
                  refine lv_iadd hx hb dX7_readSpeakers_156 ?_
                  refine ur_eq (y := nI (8 * i + 2)) (nI_add (8 * i) 2) ?_
                  refine lv_iload hx hb dX7_readSpeakers_157 (lv_at hl 0 rfl) ?_
                  refine lv_iadd hx hb dX7_readSpeakers_159 ?_
                  refine ur_eq (y := nI (8 * i + 2 + j)) (nI_add (8 * i + 2) j) ?_
                  refine lv_aload_n hx hb dX7_readSpeakers_160 rfl (lv_at hl 5 rfl) ?_
                  refine lv_iconst (v := 0) hx hb dX7_readSpeakers_161 (by decide) ?_
                  refine lv_bipush (v := 9) hx hb dX7_readSpeakers_162 (by decide) ?_
                  refine ur_callVi C h (k := 251) (As := [.int 0, .int 9]) (rest := [.int (nI (8 * i + 2 + j)), .ref (E.2.1 254)]) (k_X7_digit_n l E hI Mj 0 9 ty ((hKj.1.2.1 2 (by decide) (by decide)).trans ((hK0.1.2.1 2 (by decide) (by decide)).trans hty)) hty90 (tN (M.1 253) ty (m + 9 * i + 2 + j)) hpj hNj (m + 9 * i + 2 + j) (by rw [(hKj.1.1 253 (by decide) (by decide) (by decide) |>.trans (hK0.1.1 253 (by decide) (by decide) (by decide)))]; exact rfl) hfj) (cwV 2 hts gX7_readSpeakers_X7_digit rfl rfl rfl (by decide +kernel) ⟨Nat.le_of_ble_eq_true rfl, Nat.le_of_ble_eq_true rfl⟩) (by decide) (uc_251 E _) (T := TX7) (N := 17) rfl rfl hl.1 rfl (Nat.le_of_ble_eq_true rfl) dX7_readSpeakers_164 (fun r_27 M_28 H locs hw_28 h => ?_)
                  rw [(hKj.1.1 253 (by decide) (by decide) (by decide) |>.trans (hK0.1.1 253 (by decide) (by decide) (by decide)))] at hw_28
                  rcases Decidable.em ((0 : Int32).toInt ≤ ((tS (M.1 253) ty (m + 9 * i + 2 + j)) - 48).toInt ∧ ((tS (M.1 253) ty (m + 9 * i + 2 + j)) - 48).toInt ≤ (9 : Int32).toInt) with c_29 | c_29
                  · skip
                    rw [if_pos c_29] at hw_28
                    obtain ⟨eM_28, er_27⟩ := hw_28
                    have h253M_28 : M_28.1 253 = M.1 253 := (show M_28.1 253 = Mj.1 253 from by rw [eM_28]; rfl).trans (hKj.1.1 253 (by decide) (by decide) (by decide) |>.trans (hK0.1.1 253 (by decide) (by decide) (by decide)))
                    have htyM_28 : M_28.1 251 2 = nI ty := by rw [eM_28]; exact ((hKj.1.2.1 2 (by decide) (by decide)).trans ((hK0.1.2.1 2 (by decide) (by decide)).trans hty))
                    have hKM_28 : mK Mi M_28 i := mK_trans hKj (show mK Mj M_28 i from by rw [eM_28]; exact mK_f (Or.inl rfl))
                    have hfM_28 : M_28.1 251 4 = 0 := by rw [eM_28, u_set1, if_pos rfl, if_neg (by decide)]; exact hfj
                    have hpM_28 : M_28.1 251 3 = nI (tN (M.1 253) ty (m + 9 * i + 2 + j + 1)) := by rw [eM_28]; rfl
                    have hgM_28 : 0 ≤ tIx 0 (tS (M.1 253) ty (m + 9 * i + 2 + j)) := (mS_dig hlet (m + 9 * i + 2 + j)).1.1.mpr c_29
                    have hvM_28 : r_27 = tIx 0 (tS (M.1 253) ty (m + 9 * i + 2 + j)) := er_27.trans ((mS_dig hlet (m + 9 * i + 2 + j)).1.2 hgM_28).symm
                    have hqM_28 : (tN (M.1 253) ty (m + 9 * i + 2 + j + 1)) ≤ ty := t_lt (k := 0) (by decide) (by decide) hgM_28
                    refine ur_iast C h 254 (by decide) (uc_254 E) (8 * i + 2 + j) (by omega) (by decide) dX7_readSpeakers_167 (fun M_30 H locs eM_30 h => ?_)
                    have hfM_30 : M_30.1 251 4 = 0 := by rw [eM_30, u_set_far (by decide)]; exact hfM_28
                    have hpM_30 : M_30.1 251 3 = nI (tN (M.1 253) ty (m + 9 * i + 2 + j + 1)) := by rw [eM_30, u_set_far (by decide)]; exact hpM_28
                    have hKM_30 : mK Mi M_30 i := mK_trans hKM_28 (show mK M_28 M_30 i from by rw [eM_30]; exact mK_r (by omega))
                    have h253M_30 : M_30.1 253 = M.1 253 := (show M_30.1 253 = M_28.1 253 from by rw [eM_30]; rfl).trans h253M_28
                    have htyM_30 : M_30.1 251 2 = nI ty := by rw [eM_30]; exact htyM_28
                    refine lv_iinc (v := nI (j + 1)) (lv' := [(5, .int (nI (j + 1))), (4, .int r_14), (3, .int kd), (2, .int cc), (1, .int (nI i)), (0, .ref (E.2.1 251))]) hx hb dX7_readSpeakers_168 hl (k := 0) rfl (nI_add j 1) (by decide) rfl (fun ls hl => ?_)
                    refine lv_goto (tgt := 133) hx hb dX7_readSpeakers_171 (by decide) ?_
                    exact ih133  (j + 1) M_30 (by omega) (by omega) hKM_30 hfM_30 hpM_30 hqM_28 (fun t ht => by rw [eM_30, u_set1, if_pos rfl]; rcases Nat.lt_or_ge t j with zt | zt; (rw [if_neg (by omega), eM_28, u_set_far (by decide)]; exact hcj t zt); (rw [if_pos (by omega), show t = j by omega]; exact hvM_28)) (by rw [← hrun, show 6 - j = 6 - (j + 1) + 1 by omega, fRun_g (by rw [gK2, ← Nat.add_assoc]; exact hgM_28)]; rfl) _ _ _ h (lv_sub hl [0, 1, 2, 3, 4, 5] rfl)
                  · skip
                    rw [if_neg c_29] at hw_28
                    obtain ⟨eM_28, er_27⟩ := hw_28
                    have h253M_28 : M_28.1 253 = M.1 253 := (show M_28.1 253 = Mj.1 253 from by rw [eM_28]; rfl).trans (hKj.1.1 253 (by decide) (by decide) (by decide) |>.trans (hK0.1.1 253 (by decide) (by decide) (by decide)))
                    have htyM_28 : M_28.1 251 2 = nI ty := by rw [eM_28]; exact ((hKj.1.2.1 2 (by decide) (by decide)).trans ((hK0.1.2.1 2 (by decide) (by decide)).trans hty))
                    have hKM_28 : mK Mi M_28 i := mK_trans hKj (show mK Mj M_28 i from by rw [eM_28]; exact mK_trans (mK_f (Or.inl rfl)) (mK_f (Or.inr rfl)))
                    have hfM_28 : M_28.1 251 4 = 1 := by rw [eM_28]; rfl
                    have hpM_28 : M_28.1 251 3 = nI (tQ (M.1 253) ty (m + 9 * i + 2 + j)) := by rw [eM_28, u_set1, if_pos rfl, if_neg (by decide)]; rfl
                    have hbM_28 : ¬ 0 ≤ tIx 0 (tS (M.1 253) ty (m + 9 * i + 2 + j)) := fun zq => c_29 ((mS_dig hlet (m + 9 * i + 2 + j)).1.1.mp zq)
                    have hfr : fRun (tS (M.1 253) ty) (m + 9 * i) 0 8 = 2 + j := by rw [← hrun, show 6 - j = 6 - (j + 1) + 1 by omega, fRun_b (by rw [gK2, ← Nat.add_assoc]; exact hbM_28)]
                    have hAf : fSps (tS (M.1 253) ty) m 0 6 = (false, m + 9 * i + 2 + j, i) := by rw [hA1, show 6 - i = 6 - (i + 1) + 1 by omega, fSps_b (by omega), hfr]; rw [← Nat.add_assoc]
                    refine ur_iast C h 254 (by decide) (uc_254 E) (8 * i + 2 + j) (by omega) (by decide) dX7_readSpeakers_167 (fun M_31 H locs eM_31 h => ?_)
                    have hfM_31 : M_31.1 251 4 = 1 := by rw [eM_31, u_set_far (by decide)]; exact hfM_28
                    have hpM_31 : M_31.1 251 3 = nI (tQ (M.1 253) ty (m + 9 * i + 2 + j)) := by rw [eM_31, u_set_far (by decide)]; exact hpM_28
                    have hKM_31 : mK Mi M_31 i := mK_trans hKM_28 (show mK M_28 M_31 i from by rw [eM_31]; exact mK_r (by omega))
                    refine lv_iinc (v := nI (j + 1)) (lv' := [(5, .int (nI (j + 1))), (4, .int r_14), (3, .int kd), (2, .int cc), (1, .int (nI i)), (0, .ref (E.2.1 251))]) hx hb dX7_readSpeakers_168 hl (k := 0) rfl (nI_add j 1) (by decide) rfl (fun ls hl => ?_)
                    refine lv_goto (tgt := 133) hx hb dX7_readSpeakers_171 (by decide) ?_
                    refine lv_iload hx hb dX7_readSpeakers_133 (lv_at hl 0 rfl) ?_
                    refine lv_bipush (v := 6) hx hb dX7_readSpeakers_135 (by decide) ?_
                    refine lv_icmp_ge (tgt := 174) hx hb dX7_readSpeakers_137 (by decide) (fun c_32 => ?_) (fun c_32 => ?_)
                    · skip
                      have c_32 : 6 ≤ (j + 1) := (nI_leI (a := 6) (b := (j + 1)) (by omega) (by omega)).mp c_32
                      refine lv_aload_n hx hb dX7_readSpeakers_174 rfl (lv_at hl 5 rfl) ?_
                      refine ur_get C h 251 (by decide) (uc_251 E _) (Cn := RX7) (T := TX7) (N := 17) rfl hin7 4 (by decide) (by decide +kernel) rfl dX7_readSpeakers_175 ?_
                      refine ur_eq (y := 1) hfM_31 ?_
                      refine lv_if_ne (tgt := 204) hx hb dX7_readSpeakers_178 (by decide) (fun c_33 => ?_) (fun z => absurd z (by decide))
                      refine lv_iinc (v := nI (i + 1)) (lv' := [(1, .int (nI (i + 1))), (5, .int (nI (j + 1))), (4, .int r_14), (3, .int kd), (2, .int cc), (0, .ref (E.2.1 251))]) hx hb dX7_readSpeakers_204 hl (k := 4) rfl (nI_add i 1) (by decide) rfl (fun ls hl => ?_)
                      refine lv_goto (tgt := 2) hx hb dX7_readSpeakers_207 (by decide) ?_
                      refine lv_aload_n hx hb dX7_readSpeakers_2 rfl (lv_at hl 5 rfl) ?_
                      refine ur_get C h 251 (by decide) (uc_251 E _) (Cn := RX7) (T := TX7) (N := 17) rfl hin7 4 (by decide) (by decide +kernel) rfl dX7_readSpeakers_3 ?_
                      refine ur_eq (y := 1) hfM_31 ?_
                      refine lv_if_ne (tgt := 210) hx hb dX7_readSpeakers_6 (by decide) (fun c_34 => ?_) (fun z => absurd z (by decide))
                      refine lv_iload_n hx hb dX7_readSpeakers_210 rfl (lv_at hl 0 rfl) ?_
                      exact ur_iret C h hr hlocks (⟨mFr_trans hK0.1 hKM_31.1, hKM_31.2.1.trans hK0.2, by unfold mSpsPost; rw [hAf, if_neg Bool.false_ne_true]; exact ⟨hfM_31, hpM_31⟩⟩) dX7_readSpeakers_211
                    · skip
                      have c_32 : ¬ 6 ≤ (j + 1) := fun z => c_32 ((nI_leI (a := 6) (b := (j + 1)) (by omega) (by omega)).mpr z)
                      refine lv_aload_n hx hb dX7_readSpeakers_140 rfl (lv_at hl 5 rfl) ?_
                      refine ur_get C h 251 (by decide) (uc_251 E _) (Cn := RX7) (T := TX7) (N := 17) rfl hin7 4 (by decide) (by decide +kernel) rfl dX7_readSpeakers_141 ?_
                      refine ur_eq (y := 1) hfM_31 ?_
                      refine lv_if_ne (tgt := 174) hx hb dX7_readSpeakers_144 (by decide) (fun c_35 => ?_) (fun z => absurd z (by decide))
                      refine lv_aload_n hx hb dX7_readSpeakers_174 rfl (lv_at hl 5 rfl) ?_
                      refine ur_get C h 251 (by decide) (uc_251 E _) (Cn := RX7) (T := TX7) (N := 17) rfl hin7 4 (by decide) (by decide +kernel) rfl dX7_readSpeakers_175 ?_
                      refine ur_eq (y := 1) hfM_31 ?_
                      refine lv_if_ne (tgt := 204) hx hb dX7_readSpeakers_178 (by decide) (fun c_36 => ?_) (fun z => absurd z (by decide))
                      refine lv_iinc (v := nI (i + 1)) (lv' := [(1, .int (nI (i + 1))), (5, .int (nI (j + 1))), (4, .int r_14), (3, .int kd), (2, .int cc), (0, .ref (E.2.1 251))]) hx hb dX7_readSpeakers_204 hl (k := 4) rfl (nI_add i 1) (by decide) rfl (fun ls hl => ?_)
                      refine lv_goto (tgt := 2) hx hb dX7_readSpeakers_207 (by decide) ?_
                      refine lv_aload_n hx hb dX7_readSpeakers_2 rfl (lv_at hl 5 rfl) ?_
                      refine ur_get C h 251 (by decide) (uc_251 E _) (Cn := RX7) (T := TX7) (N := 17) rfl hin7 4 (by decide) (by decide +kernel) rfl dX7_readSpeakers_3 ?_
                      refine ur_eq (y := 1) hfM_31 ?_
                      refine lv_if_ne (tgt := 210) hx hb dX7_readSpeakers_6 (by decide) (fun c_37 => ?_) (fun z => absurd z (by decide))
                      refine lv_iload_n hx hb dX7_readSpeakers_210 rfl (lv_at hl 0 rfl) ?_
                      exact ur_iret C h hr hlocks (⟨mFr_trans hK0.1 hKM_31.1, hKM_31.2.1.trans hK0.2, by unfold mSpsPost; rw [hAf, if_neg Bool.false_ne_true]; exact ⟨hfM_31, hpM_31⟩⟩) dX7_readSpeakers_211
            have hrun0 : fRun (tS (M.1 253) ty) (m + 9 * i) 2 6 = fRun (tS (M.1 253) ty) (m + 9 * i) 0 8 := ((fRun_g (j := 0) (f := 7) (show 0 ≤ tIx 3 ((tS (M.1 253) ty) (m + 9 * i)) from hgk)).trans (fRun_g (j := 1) (f := 6) (show 0 ≤ tIx 4 ((tS (M.1 253) ty) (m + 9 * i + 1)) from hgM_15))).symm
            exact lp133 _ 0 M_15 (Nat.lt_succ_self _) (by omega) hKM_15 hfM_15 hpM_15 hqM_15 (fun t ht => absurd ht (Nat.not_lt_zero t)) hrun0 _ _ _ h (lv_sub hl [0, 1, 2, 3, 4, 5] rfl)
          · skip
            rw [if_neg c_16] at hw_15
            obtain ⟨eM_15, er_14⟩ := hw_15
            have h253M_15 : M_15.1 253 = M.1 253 := (show M_15.1 253 = M_13.1 253 from by rw [eM_15]; rfl).trans h253M_13
            have htyM_15 : M_15.1 251 2 = nI ty := by rw [eM_15]; exact htyM_13
            have hKM_15 : mK Mi M_15 i := mK_trans hKM_13 (show mK M_13 M_15 i from by rw [eM_15]; exact mK_trans (mK_f (Or.inl rfl)) (mK_f (Or.inr rfl)))
            have hfM_15 : M_15.1 251 4 = 1 := by rw [eM_15]; rfl
            have hpM_15 : M_15.1 251 3 = nI (tQ (M.1 253) ty (m + 9 * i + 1)) := by rw [eM_15, u_set1, if_pos rfl, if_neg (by decide)]; rfl
            have hbM_15 : ¬ 0 ≤ tIx 4 (tS (M.1 253) ty (m + 9 * i + 1)) := fun zq => c_16 ((mS_dig hlet (m + 9 * i + 1)).2.1.mp zq)
            have hfr : fRun (tS (M.1 253) ty) (m + 9 * i) 0 8 = 1 := (fRun_g (j := 0) (f := 7) (show 0 ≤ tIx 3 ((tS (M.1 253) ty) (m + 9 * i)) from hgk)).trans (fRun_b (j := 1) (f := 6) (show ¬ 0 ≤ tIx 4 ((tS (M.1 253) ty) (m + 9 * i + 1)) from hbM_15))
            have hAf : fSps (tS (M.1 253) ty) m 0 6 = (false, m + 9 * i + 1, i) := by rw [hA1, show 6 - i = 6 - (i + 1) + 1 by omega, fSps_b (by omega), hfr]
            refine lv_istore (lv' := [(4, .int r_14), (3, .int kd), (2, .int cc), (1, .int (nI i)), (0, .ref (E.2.1 251))]) hx hb dX7_readSpeakers_128 hl (by decide) rfl (fun ls hl => ?_)
            refine lv_iconst (v := 0) hx hb dX7_readSpeakers_130 (by decide) ?_
            refine lv_istore (lv' := [(5, .int 0), (4, .int r_14), (3, .int kd), (2, .int cc), (1, .int (nI i)), (0, .ref (E.2.1 251))]) hx hb dX7_readSpeakers_131 hl (by decide) rfl (fun ls hl => ?_)
            refine lv_iload hx hb dX7_readSpeakers_133 (lv_at hl 0 rfl) ?_
            refine lv_bipush (v := 6) hx hb dX7_readSpeakers_135 (by decide) ?_
            refine lv_icmp_ge (tgt := 174) hx hb dX7_readSpeakers_137 (by decide) (fun z => absurd z (by decide)) (fun c_38 => ?_)
            refine lv_aload_n hx hb dX7_readSpeakers_140 rfl (lv_at hl 5 rfl) ?_
            refine ur_get C h 251 (by decide) (uc_251 E _) (Cn := RX7) (T := TX7) (N := 17) rfl hin7 4 (by decide) (by decide +kernel) rfl dX7_readSpeakers_141 ?_
            refine ur_eq (y := 1) hfM_15 ?_
            refine lv_if_ne (tgt := 174) hx hb dX7_readSpeakers_144 (by decide) (fun c_39 => ?_) (fun z => absurd z (by decide))
            refine lv_aload_n hx hb dX7_readSpeakers_174 rfl (lv_at hl 5 rfl) ?_
            refine ur_get C h 251 (by decide) (uc_251 E _) (Cn := RX7) (T := TX7) (N := 17) rfl hin7 4 (by decide) (by decide +kernel) rfl dX7_readSpeakers_175 ?_
            refine ur_eq (y := 1) hfM_15 ?_
            refine lv_if_ne (tgt := 204) hx hb dX7_readSpeakers_178 (by decide) (fun c_40 => ?_) (fun z => absurd z (by decide))
            refine lv_iinc (v := nI (i + 1)) (lv' := [(1, .int (nI (i + 1))), (5, .int 0), (4, .int r_14), (3, .int kd), (2, .int cc), (0, .ref (E.2.1 251))]) hx hb dX7_readSpeakers_204 hl (k := 4) rfl (nI_add i 1) (by decide) rfl (fun ls hl => ?_)
            refine lv_goto (tgt := 2) hx hb dX7_readSpeakers_207 (by decide) ?_
            refine lv_aload_n hx hb dX7_readSpeakers_2 rfl (lv_at hl 5 rfl) ?_
            refine ur_get C h 251 (by decide) (uc_251 E _) (Cn := RX7) (T := TX7) (N := 17) rfl hin7 4 (by decide) (by decide +kernel) rfl dX7_readSpeakers_3 ?_
            refine ur_eq (y := 1) hfM_15 ?_
            refine lv_if_ne (tgt := 210) hx hb dX7_readSpeakers_6 (by decide) (fun c_41 => ?_) (fun z => absurd z (by decide))
            refine lv_iload_n hx hb dX7_readSpeakers_210 rfl (lv_at hl 0 rfl) ?_
            exact ur_iret C h hr hlocks (⟨mFr_trans hK0.1 hKM_15.1, hKM_15.2.1.trans hK0.2, by unfold mSpsPost; rw [hAf, if_neg Bool.false_ne_true]; exact ⟨hfM_15, hpM_15⟩⟩) dX7_readSpeakers_211
      refine lv_iload_n hx hb dX7_readSpeakers_22 rfl (lv_at hl 0 rfl) ?_
      refine lv_if_le (tgt := 41) hx hb dX7_readSpeakers_23 (by decide) (fun c_42 => ?_) (fun c_42 => ?_)
      · skip
        have c_42 : i ≤ 0 := (nI_leI (a := i) (b := 0) (by omega) (by omega)).mp c_42
        have hpx : tSk (M.1 253) ty pl = (tQ (M.1 253) ty (m + 9 * i)) := by rcases hc with hc | hc; (rw [hc.1]; exact hc.2); omega
        have hi5 : i < 6 := by omega
        have hA1 : fSps (tS (M.1 253) ty) m 0 6 = fSps (tS (M.1 253) ty) (m + 9 * i) i (6 - i) := by rw [hA, if_pos hi5]
        refine lv_aload_n hx hb dX7_readSpeakers_41 rfl (lv_at hl 1 rfl) ?_
        refine ur_get C h 251 (by decide) (uc_251 E _) (Cn := RX7) (T := TX7) (N := 17) rfl hin7 4 (by decide) (by decide +kernel) rfl dX7_readSpeakers_42 ?_
        refine ur_eq (y := 0) hfi ?_
        refine lv_if_eq (tgt := 52) hx hb dX7_readSpeakers_45 (by decide) (fun c_43 => ?_) (fun z => absurd z (by decide))
        refine lv_aload_n hx hb dX7_readSpeakers_52 rfl (lv_at hl 1 rfl) ?_
        refine ur_callVi C h (k := 251) (As := []) (rest := []) (k_X7_here l E hI Mi ty ((hK0.1.2.1 2 (by decide) (by decide)).trans hty) hty90 pl hpi hplt) (cwV 0 hts gX7_readSpeakers_X7_here rfl rfl rfl (by decide +kernel) ⟨Nat.le_of_ble_eq_true rfl, Nat.le_of_ble_eq_true rfl⟩) (by decide) (uc_251 E _) (T := TX7) (N := 17) rfl rfl hl.1 rfl (Nat.le_of_ble_eq_true rfl) dX7_readSpeakers_53 (fun r_44 M_45 H locs hw_45 h => ?_)
        obtain ⟨eM_45, er_44⟩ := hw_45
        rw [(hK0.1.1 253 (by decide) (by decide) (by decide))] at eM_45 er_44
        rw [tAt_of hpx] at er_44
        rw [show tSk (M.1 253) ty pl = (tQ (M.1 253) ty (m + 9 * i)) from hpx] at eM_45
        have hfM_45 : M_45.1 251 4 = 0 := by rw [eM_45, u_set1, if_pos rfl, if_neg (by decide)]; exact hfi
        have hpM_45 : M_45.1 251 3 = nI (tQ (M.1 253) ty (m + 9 * i)) := by rw [eM_45]; rfl
        have h253M_45 : M_45.1 253 = M.1 253 := (show M_45.1 253 = Mi.1 253 from by rw [eM_45, u_set_far (by decide)]).trans (hK0.1.1 253 (by decide) (by decide) (by decide))
        have htyM_45 : M_45.1 251 2 = nI ty := by rw [eM_45, u_set1, if_pos rfl, if_neg (by decide)]; exact ((hK0.1.2.1 2 (by decide) (by decide)).trans hty)
        have hkM_45 : mK Mi M_45 i := by rw [eM_45]; exact mK_f (by decide)
        have hKM_45 : mK Mi M_45 i := mK_trans (mK_refl Mi i) hkM_45
        refine ur_eq (y := (tS (M.1 253) ty (m + 9 * i))) er_44 ?_
        refine lv_topi (fun v_46 ev_46 => ?_)
        refine lv_istore_n (lv' := [(2, .int v_46), (1, .int (nI i)), (0, .ref (E.2.1 251))]) hx hb dX7_readSpeakers_56 rfl hl (by decide) rfl (fun ls hl => ?_)
        refine lv_iload_n hx hb dX7_readSpeakers_57 rfl (lv_at hl 0 rfl) ?_
        refine lv_bipush (v := 112) hx hb dX7_readSpeakers_58 (by decide) ?_
        refine lv_icmp_ne (tgt := 67) hx hb dX7_readSpeakers_60 (by decide) (fun c_47 => ?_) (fun c_47 => ?_)
        · skip
          refine lv_iload_n hx hb dX7_readSpeakers_67 rfl (lv_at hl 0 rfl) ?_
          refine lv_bipush (v := 99) hx hb dX7_readSpeakers_68 (by decide) ?_
          refine lv_icmp_ne (tgt := 77) hx hb dX7_readSpeakers_70 (by decide) (fun c_48 => ?_) (fun c_48 => ?_)
          · skip
            refine lv_iload_n hx hb dX7_readSpeakers_77 rfl (lv_at hl 0 rfl) ?_
            refine lv_bipush (v := 116) hx hb dX7_readSpeakers_78 (by decide) ?_
            refine lv_icmp_ne (tgt := 87) hx hb dX7_readSpeakers_80 (by decide) (fun c_49 => ?_) (fun c_49 => ?_)
            · skip
              refine lv_iload_n hx hb dX7_readSpeakers_87 rfl (lv_at hl 0 rfl) ?_
              refine lv_bipush (v := 109) hx hb dX7_readSpeakers_88 (by decide) ?_
              refine lv_icmp_ne (tgt := 97) hx hb dX7_readSpeakers_90 (by decide) (fun c_50 => ?_) (fun c_50 => ?_)
              · skip
                refine lv_iload_n hx hb dX7_readSpeakers_97 rfl (lv_at hl 0 rfl) ?_
                refine lv_bipush (v := 104) hx hb dX7_readSpeakers_98 (by decide) ?_
                refine lv_icmp_ne (tgt := 107) hx hb dX7_readSpeakers_100 (by decide) (fun c_51 => ?_) (fun c_51 => ?_)
                · skip
                  refine lv_iconst (v := (-1)) hx hb dX7_readSpeakers_107 (by decide) ?_
                  exact jn108 v_46 (-1) M_45 hi5 (by unfold mKind; rw [← ev_46, if_neg c_47, if_neg c_48, if_neg c_49, if_neg c_50, if_neg c_51]) hKM_45 hfM_45 hpM_45 hA1 _ _ _ h (lv_sub hl [0, 1, 2] rfl)
                · skip
                  refine lv_iconst (v := 4) hx hb dX7_readSpeakers_103 (by decide) ?_
                  refine lv_goto (tgt := 108) hx hb dX7_readSpeakers_104 (by decide) ?_
                  exact jn108 v_46 4 M_45 hi5 (by unfold mKind; rw [← ev_46, if_neg c_47, if_neg c_48, if_neg c_49, if_neg c_50, if_pos c_51]) hKM_45 hfM_45 hpM_45 hA1 _ _ _ h (lv_sub hl [0, 1, 2] rfl)
              · skip
                refine lv_iconst (v := 3) hx hb dX7_readSpeakers_93 (by decide) ?_
                refine lv_goto (tgt := 108) hx hb dX7_readSpeakers_94 (by decide) ?_
                exact jn108 v_46 3 M_45 hi5 (by unfold mKind; rw [← ev_46, if_neg c_47, if_neg c_48, if_neg c_49, if_pos c_50]) hKM_45 hfM_45 hpM_45 hA1 _ _ _ h (lv_sub hl [0, 1, 2] rfl)
            · skip
              refine lv_iconst (v := 2) hx hb dX7_readSpeakers_83 (by decide) ?_
              refine lv_goto (tgt := 108) hx hb dX7_readSpeakers_84 (by decide) ?_
              exact jn108 v_46 2 M_45 hi5 (by unfold mKind; rw [← ev_46, if_neg c_47, if_neg c_48, if_pos c_49]) hKM_45 hfM_45 hpM_45 hA1 _ _ _ h (lv_sub hl [0, 1, 2] rfl)
          · skip
            refine lv_iconst (v := 1) hx hb dX7_readSpeakers_73 (by decide) ?_
            refine lv_goto (tgt := 108) hx hb dX7_readSpeakers_74 (by decide) ?_
            exact jn108 v_46 1 M_45 hi5 (by unfold mKind; rw [← ev_46, if_neg c_47, if_pos c_48]) hKM_45 hfM_45 hpM_45 hA1 _ _ _ h (lv_sub hl [0, 1, 2] rfl)
        · skip
          refine lv_iconst (v := 0) hx hb dX7_readSpeakers_63 (by decide) ?_
          refine lv_goto (tgt := 108) hx hb dX7_readSpeakers_64 (by decide) ?_
          exact jn108 v_46 0 M_45 hi5 (by unfold mKind; rw [← ev_46, if_pos c_47]) hKM_45 hfM_45 hpM_45 hA1 _ _ _ h (lv_sub hl [0, 1, 2] rfl)
      · skip
        have c_42 : ¬ i ≤ 0 := fun z => c_42 ((nI_leI (a := i) (b := 0) (by omega) (by omega)).mpr z)
        refine lv_aload_n hx hb dX7_readSpeakers_26 rfl (lv_at hl 1 rfl) ?_
        refine lv_iload_n hx hb dX7_readSpeakers_27 rfl (lv_at hl 0 rfl) ?_
        refine lv_bipush (v := 6) hx hb dX7_readSpeakers_28 (by decide) ?_
        refine lv_icmp_ge (tgt := 37) hx hb dX7_readSpeakers_30 (by decide) (fun c_52 => ?_) (fun c_52 => ?_)
        · skip
          have c_52 : 6 ≤ i := (nI_leI (a := 6) (b := i) (by omega) (by omega)).mp c_52
          refine lv_iconst (v := 0) hx hb dX7_readSpeakers_37 (by decide) ?_
          refine ur_callVv C h (k := 251) (As := [.int 0]) (rest := []) (k_X7_must_n l E hI Mi hfi pl hpi) (cwV 1 hts gX7_readSpeakers_X7_must rfl rfl rfl (by decide +kernel) ⟨Nat.le_of_ble_eq_true rfl, Nat.le_of_ble_eq_true rfl⟩) (by decide) (uc_251 E _) (T := TX7) (N := 17) rfl rfl hl.1 rfl (Nat.le_of_ble_eq_true rfl) dX7_readSpeakers_38 (fun M_54 H locs hw_54 h => ?_)
          have eM_54 := hw_54
          have hfM_54 : M_54.1 251 4 = 1 := by rw [eM_54]; rfl
          have hpM_54 : M_54.1 251 3 = nI pl := by rw [eM_54, u_set1, if_pos rfl, if_neg (by decide)]; exact hpi
          have hkM_54 : mK Mi M_54 i := by rw [eM_54]; exact mK_f (by decide)
          have hKM_54 : mK Mi M_54 i := mK_trans (mK_refl Mi i) hkM_54
          have hpl2 : pl = (tQ (M.1 253) ty (m + 9 * i - 1)) := by rcases hc with hc | hc; omega; exact hc.2
          have hAf : fSps (tS (M.1 253) ty) m 0 6 = (false, m + 9 * i - 1, i) := by rw [hA, if_neg (by omega)]
          refine lv_aload_n hx hb dX7_readSpeakers_41 rfl (lv_at hl 1 rfl) ?_
          refine ur_get C h 251 (by decide) (uc_251 E _) (Cn := RX7) (T := TX7) (N := 17) rfl hin7 4 (by decide) (by decide +kernel) rfl dX7_readSpeakers_42 ?_
          refine ur_eq (y := 1) hfM_54 ?_
          refine lv_if_eq (tgt := 52) hx hb dX7_readSpeakers_45 (by decide) (fun z => absurd z (by decide)) (fun c_55 => ?_)
          refine lv_iconst (v := 0) hx hb dX7_readSpeakers_48 (by decide) ?_
          refine lv_goto (tgt := 56) hx hb dX7_readSpeakers_49 (by decide) ?_
          refine lv_istore_n (lv' := [(2, .int 0), (1, .int (nI i)), (0, .ref (E.2.1 251))]) hx hb dX7_readSpeakers_56 rfl hl (by decide) rfl (fun ls hl => ?_)
          refine lv_iload_n hx hb dX7_readSpeakers_57 rfl (lv_at hl 0 rfl) ?_
          refine lv_bipush (v := 112) hx hb dX7_readSpeakers_58 (by decide) ?_
          refine lv_icmp_ne (tgt := 67) hx hb dX7_readSpeakers_60 (by decide) (fun c_56 => ?_) (fun z => absurd z (by decide))
          refine lv_iload_n hx hb dX7_readSpeakers_67 rfl (lv_at hl 0 rfl) ?_
          refine lv_bipush (v := 99) hx hb dX7_readSpeakers_68 (by decide) ?_
          refine lv_icmp_ne (tgt := 77) hx hb dX7_readSpeakers_70 (by decide) (fun c_57 => ?_) (fun z => absurd z (by decide))
          refine lv_iload_n hx hb dX7_readSpeakers_77 rfl (lv_at hl 0 rfl) ?_
          refine lv_bipush (v := 116) hx hb dX7_readSpeakers_78 (by decide) ?_
          refine lv_icmp_ne (tgt := 87) hx hb dX7_readSpeakers_80 (by decide) (fun c_58 => ?_) (fun z => absurd z (by decide))
          refine lv_iload_n hx hb dX7_readSpeakers_87 rfl (lv_at hl 0 rfl) ?_
          refine lv_bipush (v := 109) hx hb dX7_readSpeakers_88 (by decide) ?_
          refine lv_icmp_ne (tgt := 97) hx hb dX7_readSpeakers_90 (by decide) (fun c_59 => ?_) (fun z => absurd z (by decide))
          refine lv_iload_n hx hb dX7_readSpeakers_97 rfl (lv_at hl 0 rfl) ?_
          refine lv_bipush (v := 104) hx hb dX7_readSpeakers_98 (by decide) ?_
          refine lv_icmp_ne (tgt := 107) hx hb dX7_readSpeakers_100 (by decide) (fun c_60 => ?_) (fun z => absurd z (by decide))
          refine lv_iconst (v := (-1)) hx hb dX7_readSpeakers_107 (by decide) ?_
          refine lv_istore_n (lv' := [(3, .int (-1)), (2, .int 0), (1, .int (nI i)), (0, .ref (E.2.1 251))]) hx hb dX7_readSpeakers_108 rfl hl (by decide) rfl (fun ls hl => ?_)
          refine lv_aload_n hx hb dX7_readSpeakers_109 rfl (lv_at hl 3 rfl) ?_
          refine lv_iload_n hx hb dX7_readSpeakers_110 rfl (lv_at hl 0 rfl) ?_
          refine lv_if_lt (tgt := 118) hx hb dX7_readSpeakers_111 (by decide) (fun c_61 => ?_) (fun z => absurd z (by decide))
          refine lv_iconst (v := 0) hx hb dX7_readSpeakers_118 (by decide) ?_
          refine ur_callVv C h (k := 251) (As := [.int 0]) (rest := []) (k_X7_must_f l E hI M_54 0 hfM_54 (tQ (M.1 253) ty (m + 9 * i - 1)) (by rw [← hpl2]; exact hpM_54)) (cwV 1 hts gX7_readSpeakers_X7_must rfl rfl rfl (by decide +kernel) ⟨Nat.le_of_ble_eq_true rfl, Nat.le_of_ble_eq_true rfl⟩) (by decide) (uc_251 E _) (T := TX7) (N := 17) rfl rfl hl.1 rfl (Nat.le_of_ble_eq_true rfl) dX7_readSpeakers_119 (fun M_63 H locs hw_63 h => ?_)
          have hu := hw_63
          subst hu
          refine lv_aload_n hx hb dX7_readSpeakers_122 rfl (lv_at hl 3 rfl) ?_
          refine lv_iconst (v := 0) hx hb dX7_readSpeakers_123 (by decide) ?_
          refine lv_iconst (v := 1) hx hb dX7_readSpeakers_124 (by decide) ?_
          refine ur_callVi C h (k := 251) (As := [.int 0, .int 1]) (rest := []) (k_X7_digit_f l E hI M_54 0 1 hfM_54 (tQ (M.1 253) ty (m + 9 * i - 1)) (by rw [← hpl2]; exact hpM_54)) (cwV 2 hts gX7_readSpeakers_X7_digit rfl rfl rfl (by decide +kernel) ⟨Nat.le_of_ble_eq_true rfl, Nat.le_of_ble_eq_true rfl⟩) (by decide) (uc_251 E _) (T := TX7) (N := 17) rfl rfl hl.1 rfl (Nat.le_of_ble_eq_true rfl) dX7_readSpeakers_125 (fun r_64 M_65 H locs hw_65 h => ?_)
          obtain ⟨hu, er_64⟩ := hw_65
          subst hu
          refine lv_istore (lv' := [(4, .int r_64), (3, .int (-1)), (2, .int 0), (1, .int (nI i)), (0, .ref (E.2.1 251))]) hx hb dX7_readSpeakers_128 hl (by decide) rfl (fun ls hl => ?_)
          refine lv_iconst (v := 0) hx hb dX7_readSpeakers_130 (by decide) ?_
          refine lv_istore (lv' := [(5, .int 0), (4, .int r_64), (3, .int (-1)), (2, .int 0), (1, .int (nI i)), (0, .ref (E.2.1 251))]) hx hb dX7_readSpeakers_131 hl (by decide) rfl (fun ls hl => ?_)
          refine lv_iload hx hb dX7_readSpeakers_133 (lv_at hl 0 rfl) ?_
          refine lv_bipush (v := 6) hx hb dX7_readSpeakers_135 (by decide) ?_
          refine lv_icmp_ge (tgt := 174) hx hb dX7_readSpeakers_137 (by decide) (fun z => absurd z (by decide)) (fun c_66 => ?_)
          refine lv_aload_n hx hb dX7_readSpeakers_140 rfl (lv_at hl 5 rfl) ?_
          refine ur_get C h 251 (by decide) (uc_251 E _) (Cn := RX7) (T := TX7) (N := 17) rfl hin7 4 (by decide) (by decide +kernel) rfl dX7_readSpeakers_141 ?_
          refine ur_eq (y := 1) hfM_54 ?_
          refine lv_if_ne (tgt := 174) hx hb dX7_readSpeakers_144 (by decide) (fun c_67 => ?_) (fun z => absurd z (by decide))
          refine lv_aload_n hx hb dX7_readSpeakers_174 rfl (lv_at hl 5 rfl) ?_
          refine ur_get C h 251 (by decide) (uc_251 E _) (Cn := RX7) (T := TX7) (N := 17) rfl hin7 4 (by decide) (by decide +kernel) rfl dX7_readSpeakers_175 ?_
          refine ur_eq (y := 1) hfM_54 ?_
          refine lv_if_ne (tgt := 204) hx hb dX7_readSpeakers_178 (by decide) (fun c_68 => ?_) (fun z => absurd z (by decide))
          refine lv_iinc (v := nI (i + 1)) (lv' := [(1, .int (nI (i + 1))), (5, .int 0), (4, .int r_64), (3, .int (-1)), (2, .int 0), (0, .ref (E.2.1 251))]) hx hb dX7_readSpeakers_204 hl (k := 4) rfl (nI_add i 1) (by decide) rfl (fun ls hl => ?_)
          refine lv_goto (tgt := 2) hx hb dX7_readSpeakers_207 (by decide) ?_
          refine lv_aload_n hx hb dX7_readSpeakers_2 rfl (lv_at hl 5 rfl) ?_
          refine ur_get C h 251 (by decide) (uc_251 E _) (Cn := RX7) (T := TX7) (N := 17) rfl hin7 4 (by decide) (by decide +kernel) rfl dX7_readSpeakers_3 ?_
          refine ur_eq (y := 1) hfM_54 ?_
          refine lv_if_ne (tgt := 210) hx hb dX7_readSpeakers_6 (by decide) (fun c_69 => ?_) (fun z => absurd z (by decide))
          refine lv_iload_n hx hb dX7_readSpeakers_210 rfl (lv_at hl 0 rfl) ?_
          exact ur_iret C h hr hlocks (⟨mFr_trans hK0.1 hKM_54.1, hKM_54.2.1.trans hK0.2, by unfold mSpsPost; rw [hAf, if_neg Bool.false_ne_true]; exact ⟨hfM_54, (by rw [← hpl2]; exact hpM_54)⟩⟩) dX7_readSpeakers_211
        · skip
          have c_52 : ¬ 6 ≤ i := fun z => c_52 ((nI_leI (a := 6) (b := i) (by omega) (by omega)).mpr z)
          refine lv_iconst (v := 1) hx hb dX7_readSpeakers_33 (by decide) ?_
          refine lv_goto (tgt := 38) hx hb dX7_readSpeakers_34 (by decide) ?_
          refine ur_callVv C h (k := 251) (As := [.int 1]) (rest := []) (k_X7_must_t l E hI Mi hfi pl hpi) (cwV 1 hts gX7_readSpeakers_X7_must rfl rfl rfl (by decide +kernel) ⟨Nat.le_of_ble_eq_true rfl, Nat.le_of_ble_eq_true rfl⟩) (by decide) (uc_251 E _) (T := TX7) (N := 17) rfl rfl hl.1 rfl (Nat.le_of_ble_eq_true rfl) dX7_readSpeakers_38 (fun M_71 H locs hw_71 h => ?_)
          have eM_71 := hw_71
          have hfM_71 : M_71.1 251 4 = 0 := by rw [eM_71, u_set1, if_pos rfl, if_neg (by decide)]; exact hfi
          have hpM_71 : M_71.1 251 3 = nI (pl + 1) := by rw [eM_71]; rfl
          have hkM_71 : mK Mi M_71 i := by rw [eM_71]; exact mK_f (by decide)
          have hKM_71 : mK Mi M_71 i := mK_trans (mK_refl Mi i) hkM_71
          have hi5 : i < 6 := by omega
          have hpl2 : pl = (tQ (M.1 253) ty (m + 9 * i - 1)) := by rcases hc with hc | hc; omega; exact hc.2
          have hpqM_71 : M_71.1 251 3 = nI (tN (M.1 253) ty (m + 9 * i)) := by rw [hpM_71, hpl2, tN_p (by omega)]
          have h253M_71 : M_71.1 253 = M.1 253 := (show M_71.1 253 = Mi.1 253 from by rw [eM_71]; rfl).trans (hK0.1.1 253 (by decide) (by decide) (by decide))
          have htyM_71 : M_71.1 251 2 = nI ty := by rw [eM_71]; exact ((hK0.1.2.1 2 (by decide) (by decide)).trans hty)
          have hA1 : fSps (tS (M.1 253) ty) m 0 6 = fSps (tS (M.1 253) ty) (m + 9 * i) i (6 - i) := by rw [hA, if_pos hi5]
          refine lv_aload_n hx hb dX7_readSpeakers_41 rfl (lv_at hl 1 rfl) ?_
          refine ur_get C h 251 (by decide) (uc_251 E _) (Cn := RX7) (T := TX7) (N := 17) rfl hin7 4 (by decide) (by decide +kernel) rfl dX7_readSpeakers_42 ?_
          refine ur_eq (y := 0) hfM_71 ?_
          refine lv_if_eq (tgt := 52) hx hb dX7_readSpeakers_45 (by decide) (fun c_72 => ?_) (fun z => absurd z (by decide))
          refine lv_aload_n hx hb dX7_readSpeakers_52 rfl (lv_at hl 1 rfl) ?_
          refine ur_callVi C h (k := 251) (As := []) (rest := []) (k_X7_here l E hI M_71 ty htyM_71 hty90 (tN (M.1 253) ty (m + 9 * i)) hpqM_71 hNi) (cwV 0 hts gX7_readSpeakers_X7_here rfl rfl rfl (by decide +kernel) ⟨Nat.le_of_ble_eq_true rfl, Nat.le_of_ble_eq_true rfl⟩) (by decide) (uc_251 E _) (T := TX7) (N := 17) rfl rfl hl.1 rfl (Nat.le_of_ble_eq_true rfl) dX7_readSpeakers_53 (fun r_73 M_74 H locs hw_74 h => ?_)
          obtain ⟨eM_74, er_73⟩ := hw_74
          rw [h253M_71] at eM_74 er_73
          rw [tAt_of rfl] at er_73
          rw [show tSk (M.1 253) ty (tN (M.1 253) ty (m + 9 * i)) = (tQ (M.1 253) ty (m + 9 * i)) from rfl] at eM_74
          have hfM_74 : M_74.1 251 4 = 0 := by rw [eM_74, u_set1, if_pos rfl, if_neg (by decide)]; exact hfM_71
          have hpM_74 : M_74.1 251 3 = nI (tQ (M.1 253) ty (m + 9 * i)) := by rw [eM_74]; rfl
          have h253M_74 : M_74.1 253 = M.1 253 := (show M_74.1 253 = M_71.1 253 from by rw [eM_74, u_set_far (by decide)]).trans h253M_71
          have htyM_74 : M_74.1 251 2 = nI ty := by rw [eM_74, u_set1, if_pos rfl, if_neg (by decide)]; exact htyM_71
          have hkM_74 : mK M_71 M_74 i := by rw [eM_74]; exact mK_f (by decide)
          have hKM_74 : mK Mi M_74 i := mK_trans hKM_71 hkM_74
          refine ur_eq (y := (tS (M.1 253) ty (m + 9 * i))) er_73 ?_
          refine lv_topi (fun v_75 ev_75 => ?_)
          refine lv_istore_n (lv' := [(2, .int v_75), (1, .int (nI i)), (0, .ref (E.2.1 251))]) hx hb dX7_readSpeakers_56 rfl hl (by decide) rfl (fun ls hl => ?_)
          refine lv_iload_n hx hb dX7_readSpeakers_57 rfl (lv_at hl 0 rfl) ?_
          refine lv_bipush (v := 112) hx hb dX7_readSpeakers_58 (by decide) ?_
          refine lv_icmp_ne (tgt := 67) hx hb dX7_readSpeakers_60 (by decide) (fun c_76 => ?_) (fun c_76 => ?_)
          · skip
            refine lv_iload_n hx hb dX7_readSpeakers_67 rfl (lv_at hl 0 rfl) ?_
            refine lv_bipush (v := 99) hx hb dX7_readSpeakers_68 (by decide) ?_
            refine lv_icmp_ne (tgt := 77) hx hb dX7_readSpeakers_70 (by decide) (fun c_77 => ?_) (fun c_77 => ?_)
            · skip
              refine lv_iload_n hx hb dX7_readSpeakers_77 rfl (lv_at hl 0 rfl) ?_
              refine lv_bipush (v := 116) hx hb dX7_readSpeakers_78 (by decide) ?_
              refine lv_icmp_ne (tgt := 87) hx hb dX7_readSpeakers_80 (by decide) (fun c_78 => ?_) (fun c_78 => ?_)
              · skip
                refine lv_iload_n hx hb dX7_readSpeakers_87 rfl (lv_at hl 0 rfl) ?_
                refine lv_bipush (v := 109) hx hb dX7_readSpeakers_88 (by decide) ?_
                refine lv_icmp_ne (tgt := 97) hx hb dX7_readSpeakers_90 (by decide) (fun c_79 => ?_) (fun c_79 => ?_)
                · skip
                  refine lv_iload_n hx hb dX7_readSpeakers_97 rfl (lv_at hl 0 rfl) ?_
                  refine lv_bipush (v := 104) hx hb dX7_readSpeakers_98 (by decide) ?_
                  refine lv_icmp_ne (tgt := 107) hx hb dX7_readSpeakers_100 (by decide) (fun c_80 => ?_) (fun c_80 => ?_)
                  · skip
                    refine lv_iconst (v := (-1)) hx hb dX7_readSpeakers_107 (by decide) ?_
                    exact jn108 v_75 (-1) M_74 hi5 (by unfold mKind; rw [← ev_75, if_neg c_76, if_neg c_77, if_neg c_78, if_neg c_79, if_neg c_80]) hKM_74 hfM_74 hpM_74 hA1 _ _ _ h (lv_sub hl [0, 1, 2] rfl)
                  · skip
                    refine lv_iconst (v := 4) hx hb dX7_readSpeakers_103 (by decide) ?_
                    refine lv_goto (tgt := 108) hx hb dX7_readSpeakers_104 (by decide) ?_
                    exact jn108 v_75 4 M_74 hi5 (by unfold mKind; rw [← ev_75, if_neg c_76, if_neg c_77, if_neg c_78, if_neg c_79, if_pos c_80]) hKM_74 hfM_74 hpM_74 hA1 _ _ _ h (lv_sub hl [0, 1, 2] rfl)
                · skip
                  refine lv_iconst (v := 3) hx hb dX7_readSpeakers_93 (by decide) ?_
                  refine lv_goto (tgt := 108) hx hb dX7_readSpeakers_94 (by decide) ?_
                  exact jn108 v_75 3 M_74 hi5 (by unfold mKind; rw [← ev_75, if_neg c_76, if_neg c_77, if_neg c_78, if_pos c_79]) hKM_74 hfM_74 hpM_74 hA1 _ _ _ h (lv_sub hl [0, 1, 2] rfl)
              · skip
                refine lv_iconst (v := 2) hx hb dX7_readSpeakers_83 (by decide) ?_
                refine lv_goto (tgt := 108) hx hb dX7_readSpeakers_84 (by decide) ?_
                exact jn108 v_75 2 M_74 hi5 (by unfold mKind; rw [← ev_75, if_neg c_76, if_neg c_77, if_pos c_78]) hKM_74 hfM_74 hpM_74 hA1 _ _ _ h (lv_sub hl [0, 1, 2] rfl)
            · skip
              refine lv_iconst (v := 1) hx hb dX7_readSpeakers_73 (by decide) ?_
              refine lv_goto (tgt := 108) hx hb dX7_readSpeakers_74 (by decide) ?_
              exact jn108 v_75 1 M_74 hi5 (by unfold mKind; rw [← ev_75, if_neg c_76, if_pos c_77]) hKM_74 hfM_74 hpM_74 hA1 _ _ _ h (lv_sub hl [0, 1, 2] rfl)
          · skip
            refine lv_iconst (v := 0) hx hb dX7_readSpeakers_63 (by decide) ?_
            refine lv_goto (tgt := 108) hx hb dX7_readSpeakers_64 (by decide) ?_
            exact jn108 v_75 0 M_74 hi5 (by unfold mKind; rw [← ev_75, if_pos c_76]) hKM_74 hfM_74 hpM_74 hA1 _ _ _ h (lv_sub hl [0, 1, 2] rfl)
  exact lp22 _ 0 p M (Nat.lt_succ_self _) (by omega) ⟨mFr_refl M, rfl⟩ hf hp hpt (Or.inl ⟨rfl, hpm⟩) hNm (fun t ht => absurd ht (Nat.not_lt_zero t)) rfl _ _ _ h (lv_sub hl [0, 1] rfl)
