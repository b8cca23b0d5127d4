set_option maxHeartbeats 1000000 in
set_option maxRecDepth 100000 in
theorem k_X5_takeSpeakers (l : Launch) (E : uE) (hI : uI E) (S : uS) (M : uM) (ty : Nat) (hty : M.1 240 1 = nI ty) (hty90 : ty ≤ 90) (hch : ∀ i, i < ty → narrow .char (.int (M.1 241 i)) = .int (M.1 241 i)) (p : Nat) (hp : M.1 240 2 = nI p) (hpt : p ≤ ty) (m : Nat) (hpm : tSk (M.1 241) ty p = tQ (M.1 241) ty m) (hnn : M.1 157 0 = nI 0) : Met l yX5_takeSpeakers wsX5_takeSpeakers ({ frames := 6, cells := 0, slots := 0, locals := 139 }) (va_Pc [.ref (E.2.1 240)] (uBt E S M)) (va_Qi (fun r u => tI M u 0 ∧ tSpsPost (tS (M.1 241) ty) (M.1 241) ty u r m (fSps (tS (M.1 241) ty) m 0 6)) (uP E) (uA E)) 0 0 (uA E) := by
  refine u_startT (cc := cX5_takeSpeakers) (maxL := 2) (ret := (some .boolean)) hI (by decide) rfl (Nat.le_of_ble_eq_true rfl) ?_
  intro p_ e_ s_ m_ bl_ me_ c_ C hT hr hlocks h ls hl
  have hx := C.1.1
  have hb := C.1.2.1
  have hown : s_.vm.findClass RX5 = some m_.cls := C.1.2.2.2.1
  have hts := C.1.2.2.2.2
  have hl : lv_has ls 2 [(0, .ref (E.2.1 240))] := hl
  refine lv_aload_n hx hb dX5_takeSpeakers_0 rfl (lv_at hl 0 rfl) ?_
  refine ut_callVi C hT h (k := 240) (As := []) (rest := []) (k_X5_takeSpeaker l E hI S M ty hty hty90 hch p hp hpt (m) hpm 0 hnn (by omega)) (cwV 0 hts gX5_takeSpeakers_X5_takeSpeaker rfl rfl rfl (by decide +kernel) ⟨Nat.le_of_ble_eq_true rfl, Nat.le_of_ble_eq_true rfl⟩) (by decide) (uc_240 E _) (T := TX5) (N := 4) rfl rfl hl.1 rfl (Nat.le_of_ble_eq_true rfl) dX5_takeSpeakers_1 (fun r_1 M_2 H locs hw_2 h => ?_)
  obtain ⟨ht1M_2, hresM_2⟩ := hw_2
  have er_1 := tSps_if hresM_2
  have h241M_2 : M_2.1 241 = M.1 241 := (ht1M_2.1.1 241 (by decide) (by decide)).trans (rfl : M.1 241 = M.1 241)
  have htyM_2 : M_2.1 240 1 = nI ty := (ht1M_2.1.2.2.1 1 (by decide)).trans hty
  have ht0M_2 : tI M M_2 0 := tI_trans (tI_refl M 0) (tI_weak ht1M_2)
  refine lv_if_ne (tgt := 9) hx hb dX5_takeSpeakers_4 (by decide) (fun c_3 => ?_) (fun c_3 => ?_)
  · skip
    have c_3 : fRun (tS (M.1 241) ty) (m) 0 8 = 8 := uz_t er_1 c_3
    rw [if_pos c_3] at hresM_2
    obtain ⟨-, hspM_2, hplM_2, hqlM_2, hdtM_2⟩ := hresM_2
    refine lv_iconst (v := 1) hx hb dX5_takeSpeakers_9 (by decide) ?_
    refine lv_istore_n (lv' := [(1, .int 1), (0, .ref (E.2.1 240))]) hx hb dX5_takeSpeakers_10 rfl hl (by decide) rfl (fun ls hl => ?_)
    have lp11 : ∀ (n11 : Nat) (t : Nat) (Mt : uM), 6 - t < n11 → (t < 6) → (tI M Mt 0) → (Mt.1 157 0 = nI (t + 1)) → (Mt.1 240 2 = nI (tN (M.1 241) ty (m + 9 * t + 8))) → ((tN (M.1 241) ty (m + 9 * t + 8)) ≤ ty) → (∀ i, i < t + 1 → tDat (tS (M.1 241) ty) Mt i (m + 9 * i)) → (fSps (tS (M.1 241) ty) m 0 6 = fAft (tS (M.1 241) ty) (m + 9 * t + 8) (t + 1) (5 - t)) → ∀ (H : Heap) (locs : List Loc) (ls : Array Slot), uH E Mt s_ H locs → lv_has ls 2 [(1, .int (nI (t + 1))), (0, .ref (E.2.1 240))] → W p_ l e_ ({ frames := 6, cells := 0, slots := 0, locals := 139 }) s_ m_ (List.toArray [.ref (E.2.1 240)]) bl_ me_ c_ H locs 0 0 (MQ bl_ (va_Qi (fun r u => tI M u 0 ∧ tSpsPost (tS (M.1 241) ty) (M.1 241) ty u r m (fSps (tS (M.1 241) ty) m 0 6)) (uP E) (uA E)) (List.toArray [.ref (E.2.1 240)]) s_ 0 0 (uA E)) (F0 m_ 11 ls []) := by
      intro n11
      induction n11 with
      | zero => intro t Mt hms; exact absurd hms (Nat.not_lt_zero _)
      | succ n11 ih11 =>
        intro t Mt hms11 ht6 hti hsp hpl hql hdat hsps H locs ls h hl
        refine lv_iload_n hx hb dX5_takeSpeakers_11 rfl (lv_at hl 0 rfl) ?_
        refine lv_bipush (v := 6) hx hb dX5_takeSpeakers_12 (by decide) ?_
        refine lv_icmp_ge (tgt := 42) hx hb dX5_takeSpeakers_14 (by decide) (fun c_4 => ?_) (fun c_4 => ?_)
        · skip
          have c_4 : 6 ≤ (t + 1) := (nI_leI (a := 6) (b := (t + 1)) (by omega) (by omega)).mp c_4
          have ht5 : t = 5 := by omega
          refine lv_aload_n hx hb dX5_takeSpeakers_42 rfl (lv_at hl 1 rfl) ?_
          refine va_ldcS hx hb hown hT.2.2.2.1 dX5_takeSpeakers_43 ?_
          refine lv_iconst (v := 0) hx hb dX5_takeSpeakers_45 (by decide) ?_
          refine ut_callVi C hT h (k := 240) (As := [.ref (S.1 1), .int 0]) (rest := []) (k_X5_take l E hI S Mt 1 (by decide) 0 ty ((hti.1.2.2.1 1 (by decide)).trans hty) hty90 (by rw [(hti.1.1 241 (by decide) (by decide))]; exact hch) (tN (M.1 241) ty (m + 9 * t + 8)) hpl hql) (cwV 2 hts gX5_takeSpeakers_X5_take rfl rfl rfl (by decide +kernel) ⟨Nat.le_of_ble_eq_true rfl, Nat.le_of_ble_eq_true rfl⟩) (by decide) (uc_240 E _) (T := TX5) (N := 4) rfl rfl hl.1 rfl (Nat.le_of_ble_eq_true rfl) dX5_takeSpeakers_46 (fun r_5 M_6 H locs hw_6 h => ?_)
          obtain ⟨eM_6, er_5⟩ := hw_6
          rw [(hti.1.1 241 (by decide) (by decide))] at eM_6 er_5
          rw [tAt_of rfl, show tSk (M.1 241) ty (tN (M.1 241) ty (m + 9 * t + 8)) = (tQ (M.1 241) ty (m + 9 * t + 8)) from rfl] at eM_6
          rw [tAt_of rfl] at er_5
          have h241M_6 : M_6.1 241 = M.1 241 := (show M_6.1 241 = Mt.1 241 from by rw [eM_6, u_set_far (by decide)]).trans (hti.1.1 241 (by decide) (by decide))
          have ht0M_6 : tI M M_6 0 := tI_trans hti (show tI Mt M_6 0 from by rw [eM_6]; exact tI_place _ _ _)
          have htyM_6 : M_6.1 240 1 = nI ty := by rw [eM_6, u_set1, if_pos rfl, if_neg (by decide)]; exact ((hti.1.2.2.1 1 (by decide)).trans hty)
          refine lv_if_lt (tgt := 56) hx hb dX5_takeSpeakers_49 (by decide) (fun c_7 => ?_) (fun c_7 => ?_)
          · skip
            have c_7 := Int32.not_le.mpr c_7
            have hbM_6 := t_nge er_5 (by decide) c_7
            have hpM_6 : M_6.1 240 2 = nI (tQ (M.1 241) ty (m + 9 * t + 8)) := by rw [eM_6, if_neg hbM_6]; rfl
            refine lv_iconst (v := 0) hx hb dX5_takeSpeakers_56 (by decide) ?_
            exact ur_zret C h hr (by rfl) hlocks (by subst ht5; have hA2 : (fSps (tS (M.1 241) ty) m 0 6).2 = (m + 9 * 5 + 8, 5 + 1) := (by rw [hsps]; exact (fAft_0 _ _ _).1); exact ⟨ht0M_6, by unfold tSpsPost; rw [hA2, if_neg (fun z => hbM_6 z.2)]; exact ⟨rfl, hpM_6⟩⟩) dX5_takeSpeakers_57
          · skip
            have c_7 := Int32.not_lt.mp c_7
            obtain ⟨hgM_6, hrM_6⟩ := t_ge er_5 (by decide) c_7
            have hpM_6 : M_6.1 240 2 = nI (tN (M.1 241) ty (m + 9 * t + 8 + 1)) := by rw [eM_6, if_pos hgM_6]; rfl
            have hqM_6 : (tN (M.1 241) ty (m + 9 * t + 8 + 1)) ≤ ty := t_lt (k := 1) (by decide) (by decide) hgM_6
            refine lv_iconst (v := 1) hx hb dX5_takeSpeakers_52 (by decide) ?_
            refine lv_goto (tgt := 57) hx hb dX5_takeSpeakers_53 (by decide) ?_
            exact ur_zret C h hr (by rfl) hlocks (by subst ht5; exact ⟨ht0M_6, by rw [show fSps (tS (M.1 241) ty) m 0 6 = (true, m + 9 * 5 + 8, 5 + 1) from hsps.trans (fAft_n (t12 hgM_6))]; unfold tSpsPost; rw [if_pos ⟨rfl, hgM_6⟩]; exact ⟨rfl, (by rw [eM_6, u_set_far (by decide)]; exact hsp), hpM_6, hqM_6, (fun i hi => by rw [eM_6]; exact tDat_place (hdat i hi))⟩⟩) dX5_takeSpeakers_57
        · skip
          have c_4 : ¬ 6 ≤ (t + 1) := fun z => c_4 ((nI_leI (a := 6) (b := (t + 1)) (by omega) (by omega)).mpr z)
          refine lv_aload_n hx hb dX5_takeSpeakers_17 rfl (lv_at hl 1 rfl) ?_
          refine va_ldcS hx hb hown hT.2.2.2.2.1 dX5_takeSpeakers_18 ?_
          refine lv_iconst (v := 0) hx hb dX5_takeSpeakers_20 (by decide) ?_
          refine ut_callVi C hT h (k := 240) (As := [.ref (S.1 2), .int 0]) (rest := []) (k_X5_take l E hI S Mt 2 (by decide) 0 ty ((hti.1.2.2.1 1 (by decide)).trans hty) hty90 (by rw [(hti.1.1 241 (by decide) (by decide))]; exact hch) (tN (M.1 241) ty (m + 9 * t + 8)) hpl hql) (cwV 2 hts gX5_takeSpeakers_X5_take rfl rfl rfl (by decide +kernel) ⟨Nat.le_of_ble_eq_true rfl, Nat.le_of_ble_eq_true rfl⟩) (by decide) (uc_240 E _) (T := TX5) (N := 4) rfl rfl hl.1 rfl (Nat.le_of_ble_eq_true rfl) dX5_takeSpeakers_21 (fun r_8 M_9 H locs hw_9 h => ?_)
          obtain ⟨eM_9, er_8⟩ := hw_9
          rw [(hti.1.1 241 (by decide) (by decide))] at eM_9 er_8
          rw [tAt_of rfl, show tSk (M.1 241) ty (tN (M.1 241) ty (m + 9 * t + 8)) = (tQ (M.1 241) ty (m + 9 * t + 8)) from rfl] at eM_9
          rw [tAt_of rfl] at er_8
          have h241M_9 : M_9.1 241 = M.1 241 := (show M_9.1 241 = Mt.1 241 from by rw [eM_9, u_set_far (by decide)]).trans (hti.1.1 241 (by decide) (by decide))
          have ht0M_9 : tI M M_9 0 := tI_trans hti (show tI Mt M_9 0 from by rw [eM_9]; exact tI_place _ _ _)
          have htyM_9 : M_9.1 240 1 = nI ty := by rw [eM_9, u_set1, if_pos rfl, if_neg (by decide)]; exact ((hti.1.2.2.1 1 (by decide)).trans hty)
          refine lv_if_lt (tgt := 42) hx hb dX5_takeSpeakers_24 (by decide) (fun c_10 => ?_) (fun c_10 => ?_)
          · skip
            have c_10 := Int32.not_le.mpr c_10
            have hbM_9 := t_nge er_8 (by decide) c_10
            have hpM_9 : M_9.1 240 2 = nI (tQ (M.1 241) ty (m + 9 * t + 8)) := by rw [eM_9, if_neg hbM_9]; rfl
            have hA : fSps (tS (M.1 241) ty) m 0 6 = (true, m + 9 * t + 8, t + 1) := hsps.trans (fAft_n hbM_9)
            refine lv_aload_n hx hb dX5_takeSpeakers_42 rfl (lv_at hl 1 rfl) ?_
            refine va_ldcS hx hb hown hT.2.2.2.1 dX5_takeSpeakers_43 ?_
            refine lv_iconst (v := 0) hx hb dX5_takeSpeakers_45 (by decide) ?_
            refine ut_callVi C hT h (k := 240) (As := [.ref (S.1 1), .int 0]) (rest := []) (k_X5_take l E hI S M_9 1 (by decide) 0 ty htyM_9 hty90 (by rw [h241M_9]; exact hch) (tQ (M.1 241) ty (m + 9 * t + 8)) hpM_9 (tQ_le hql)) (cwV 2 hts gX5_takeSpeakers_X5_take rfl rfl rfl (by decide +kernel) ⟨Nat.le_of_ble_eq_true rfl, Nat.le_of_ble_eq_true rfl⟩) (by decide) (uc_240 E _) (T := TX5) (N := 4) rfl rfl hl.1 rfl (Nat.le_of_ble_eq_true rfl) dX5_takeSpeakers_46 (fun r_11 M_12 H locs hw_12 h => ?_)
            obtain ⟨eM_12, er_11⟩ := hw_12
            rw [h241M_9] at eM_12 er_11
            rw [tAt_of tQ_sk, show tSk (M.1 241) ty (tQ (M.1 241) ty (m + 9 * t + 8)) = (tQ (M.1 241) ty (m + 9 * t + 8)) from tQ_sk] at eM_12
            rw [tAt_of tQ_sk] at er_11
            have h241M_12 : M_12.1 241 = M.1 241 := (show M_12.1 241 = M_9.1 241 from by rw [eM_12, u_set_far (by decide)]).trans h241M_9
            have ht0M_12 : tI M M_12 0 := tI_trans ht0M_9 (show tI M_9 M_12 0 from by rw [eM_12]; exact tI_place _ _ _)
            have htyM_12 : M_12.1 240 1 = nI ty := by rw [eM_12, u_set1, if_pos rfl, if_neg (by decide)]; exact htyM_9
            refine lv_if_lt (tgt := 56) hx hb dX5_takeSpeakers_49 (by decide) (fun c_13 => ?_) (fun c_13 => ?_)
            · skip
              have c_13 := Int32.not_le.mpr c_13
              have hbM_12 := t_nge er_11 (by decide) c_13
              have hpM_12 : M_12.1 240 2 = nI (tQ (M.1 241) ty (m + 9 * t + 8)) := by rw [eM_12, if_neg hbM_12]; rfl
              refine lv_iconst (v := 0) hx hb dX5_takeSpeakers_56 (by decide) ?_
              exact ur_zret C h hr (by rfl) hlocks (⟨ht0M_12, by rw [hA]; unfold tSpsPost; rw [if_neg (fun z => hbM_12 z.2)]; exact ⟨rfl, hpM_12⟩⟩) dX5_takeSpeakers_57
            · skip
              have c_13 := Int32.not_lt.mp c_13
              obtain ⟨hgM_12, hrM_12⟩ := t_ge er_11 (by decide) c_13
              have hpM_12 : M_12.1 240 2 = nI (tN (M.1 241) ty (m + 9 * t + 8 + 1)) := by rw [eM_12, if_pos hgM_12]; rfl
              have hqM_12 : (tN (M.1 241) ty (m + 9 * t + 8 + 1)) ≤ ty := t_lt (k := 1) (by decide) (by decide) hgM_12
              refine lv_iconst (v := 1) hx hb dX5_takeSpeakers_52 (by decide) ?_
              refine lv_goto (tgt := 57) hx hb dX5_takeSpeakers_53 (by decide) ?_
              exact ur_zret C h hr (by rfl) hlocks (⟨ht0M_12, by rw [hA]; unfold tSpsPost; rw [if_pos ⟨rfl, hgM_12⟩]; exact ⟨rfl, (by rw [eM_12, u_set_far (by decide)]; exact (by rw [eM_9, u_set_far (by decide)]; exact hsp)), hpM_12, hqM_12, (fun i hi => by rw [eM_12]; exact tDat_place (by rw [eM_9]; exact tDat_place (hdat i hi)))⟩⟩) dX5_takeSpeakers_57
          · skip
            have c_10 := Int32.not_lt.mp c_10
            obtain ⟨hgM_9, hrM_9⟩ := t_ge er_8 (by decide) c_10
            have hpM_9 : M_9.1 240 2 = nI (tN (M.1 241) ty (m + 9 * t + 8 + 1)) := by rw [eM_9, if_pos hgM_9]; rfl
            have hqM_9 : (tN (M.1 241) ty (m + 9 * t + 8 + 1)) ≤ ty := t_lt (k := 2) (by decide) (by decide) hgM_9
            refine lv_aload_n hx hb dX5_takeSpeakers_27 rfl (lv_at hl 1 rfl) ?_
            refine ut_callVi C hT h (k := 240) (As := []) (rest := []) (k_X5_takeSpeaker l E hI S M_9 ty htyM_9 hty90 (by rw [h241M_9]; exact hch) (tN (M.1 241) ty (m + 9 * t + 8 + 1)) hpM_9 hqM_9 (m + 9 * t + 8 + 1) (by rw [h241M_9]; exact rfl) (t + 1) (by rw [eM_9, u_set_far (by decide)]; exact hsp) (by omega)) (cwV 0 hts gX5_takeSpeakers_X5_takeSpeaker rfl rfl rfl (by decide +kernel) ⟨Nat.le_of_ble_eq_true rfl, Nat.le_of_ble_eq_true rfl⟩) (by decide) (uc_240 E _) (T := TX5) (N := 4) rfl rfl hl.1 rfl (Nat.le_of_ble_eq_true rfl) dX5_takeSpeakers_28 (fun r_14 M_15 H locs hw_15 h => ?_)
            rw [h241M_9] at hw_15
            obtain ⟨ht1M_15, hresM_15⟩ := hw_15
            have er_14 := tSps_if hresM_15
            have h241M_15 : M_15.1 241 = M.1 241 := (ht1M_15.1.1 241 (by decide) (by decide)).trans h241M_9
            have htyM_15 : M_15.1 240 1 = nI ty := (ht1M_15.1.2.2.1 1 (by decide)).trans htyM_9
            have ht0M_15 : tI M M_15 0 := tI_trans ht0M_9 (tI_weak ht1M_15)
            refine lv_if_ne (tgt := 36) hx hb dX5_takeSpeakers_31 (by decide) (fun c_16 => ?_) (fun c_16 => ?_)
            · skip
              have c_16 : fRun (tS (M.1 241) ty) (m + 9 * t + 8 + 1) 0 8 = 8 := uz_t er_14 c_16
              rw [if_pos c_16] at hresM_15
              obtain ⟨-, hspM_15, hplM_15, hqlM_15, hdtM_15⟩ := hresM_15
              refine lv_iinc (v := nI (t + 1 + 1)) (lv' := [(1, .int (nI (t + 1 + 1))), (0, .ref (E.2.1 240))]) hx hb dX5_takeSpeakers_36 hl (k := 0) rfl (nI_add (t + 1) 1) (by decide) rfl (fun ls hl => ?_)
              refine lv_goto (tgt := 11) hx hb dX5_takeSpeakers_39 (by decide) ?_
              exact ih11  (t + 1) M_15 (by omega) (by omega) ht0M_15 hspM_15 (by rw [show m + 9 * (t + 1) + 8 = m + 9 * t + 8 + 1 + 8 by omega]; exact hplM_15) (by rw [show m + 9 * (t + 1) + 8 = m + 9 * t + 8 + 1 + 8 by omega]; exact hqlM_15) (fun i h => by rcases Nat.lt_or_ge i (t + 1) with z | z; exact tDat_keep ht1M_15 z (by rw [eM_9]; exact tDat_place (hdat i z)); (have z2 : i = t + 1 := (by omega); subst z2; rw [show m + 9 * (t + 1) = m + 9 * t + 8 + 1 by omega]; exact hdtM_15)) (by rw [hsps, fAft_c (hgM_9) (by omega), show 5 - t = 5 - (t + 1) + 1 by omega, fSps_g c_16]; rw [show m + 9 * (t + 1) + 8 = m + 9 * t + 8 + 1 + 8 by omega]) _ _ _ h (lv_sub hl [0, 1] rfl)
            · skip
              have c_16 : ¬ (fRun (tS (M.1 241) ty) (m + 9 * t + 8 + 1) 0 8 = 8) := uz_f er_14 c_16
              rw [if_neg c_16] at hresM_15
              refine lv_iconst (v := 0) hx hb dX5_takeSpeakers_34 (by decide) ?_
              exact ur_zret C h hr (by rfl) hlocks (⟨ht0M_15, by rw [show fSps (tS (M.1 241) ty) m 0 6 = (false, m + 9 * t + 8 + 1 + fRun (tS (M.1 241) ty) (m + 9 * t + 8 + 1) 0 8, t + 1) from hsps.trans ((fAft_c hgM_9 (by omega)).trans (by rw [show 5 - t = 5 - (t + 1) + 1 by omega]; exact fSps_b c_16))]; unfold tSpsPost; rw [if_neg (fun z => Bool.false_ne_true z.1)]; exact ⟨rfl, hresM_15.2⟩⟩) dX5_takeSpeakers_35
    exact lp11 _ 0 M_2 (Nat.lt_succ_self _) (by omega) ht0M_2 hspM_2 (by rw [show m + 9 * 0 + 8 = m + 8 by omega]; exact hplM_2) (by rw [show m + 9 * 0 + 8 = m + 8 by omega]; exact hqlM_2) (fun i h => by have z : i = 0 := (by omega); subst z; exact hdtM_2) (fSps_g (i := 0) (f := 5) c_3) _ _ _ h (lv_sub hl [0, 1] rfl)
  · skip
    have c_3 : ¬ (fRun (tS (M.1 241) ty) (m) 0 8 = 8) := uz_f er_1 c_3
    rw [if_neg c_3] at hresM_2
    refine lv_iconst (v := 0) hx hb dX5_takeSpeakers_7 (by decide) ?_
    exact ur_zret C h hr (by rfl) hlocks (⟨ht0M_2, by rw [show fSps (tS (M.1 241) ty) m 0 6 = (false, m + fRun (tS (M.1 241) ty) (m) 0 8, 0) from fSps_b (i := 0) (f := 5) c_3]; unfold tSpsPost; rw [if_neg (fun z => Bool.false_ne_true z.1)]; exact ⟨rfl, hresM_2.2⟩⟩) dX5_takeSpeakers_8
