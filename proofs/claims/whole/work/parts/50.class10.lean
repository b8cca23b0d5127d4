set_option maxHeartbeats 1000000 in
set_option maxRecDepth 100000 in
theorem k_X5_takeSpeaker (l : Launch) (E : uE) (hI : uI E) (S : uS) (M : uM) (ty : Nat) (hty : M.1 240 1 = nI ty) (hty90 : ty ≤ 90) (hch : ∀ i, i < ty → narrow .char (.int (M.1 241 i)) = .int (M.1 241 i)) (p : Nat) (hp : M.1 240 2 = nI p) (hpt : p ≤ ty) (m : Nat) (hpm : tSk (M.1 241) ty p = tQ (M.1 241) ty m) (nn : Nat) (hnn : M.1 157 0 = nI nn) (hnn6 : nn < 6) : Met l yX5_takeSpeaker wsX5_takeSpeaker ({ frames := 5, cells := 0, slots := 0, locals := 114 }) (va_Pc [.ref (E.2.1 240)] (uBt E S M)) (va_Qi (fun r u => tI M u nn ∧ if (fRun (tS (M.1 241) ty) m 0 8) = 8 then r = 1 ∧ u.1 157 0 = nI (nn + 1) ∧ u.1 240 2 = nI (tN (M.1 241) ty (m + 8)) ∧ (tN (M.1 241) ty (m + 8)) ≤ ty ∧ tDat (tS (M.1 241) ty) u nn m else r = 0 ∧ u.1 240 2 = nI (tQ (M.1 241) ty (m + (fRun (tS (M.1 241) ty) m 0 8)))) (uP E) (uA E)) 0 0 (uA E) := by
  have hin1 : ∀ w ∈ wsX10, w ∈ wsX5_takeSpeaker := by decide +kernel
  have hin5 : ∀ w ∈ wsX50, w ∈ wsX5_takeSpeaker := by decide +kernel
  refine u_startT (cc := cX5_takeSpeaker) (maxL := 6) (ret := (some .boolean)) hI (by decide) rfl (Nat.le_of_ble_eq_true rfl) ?_
  intro p_ e_ s_ m_ bl_ me_ c_ C hT hr hlocks h ls hl
  have hx := C.1.1
  have hb := C.1.2.1
  have hown : s_.vm.findClass RX5 = some m_.cls := C.1.2.2.2.1
  have hts := C.1.2.2.2.2
  have hl : lv_has ls 6 [(0, .ref (E.2.1 240))] := hl
  refine lv_aload_n hx hb dX5_takeSpeaker_0 rfl (lv_at hl 0 rfl) ?_
  refine va_ldcS hx hb hown hT.2.2.2.2.2.1 dX5_takeSpeaker_1 ?_
  refine lv_iconst (v := 0) hx hb dX5_takeSpeaker_3 (by decide) ?_
  refine ut_callVi C hT h (k := 240) (As := [.ref (S.1 3), .int 0]) (rest := []) (k_X5_take l E hI S M 3 (by decide) 0 ty hty hty90 hch p hp hpt) (cwV 2 hts gX5_takeSpeaker_X5_take rfl rfl rfl (by decide +kernel) ⟨Nat.le_of_ble_eq_true rfl, Nat.le_of_ble_eq_true rfl⟩) (by decide) (uc_240 E _) (T := TX5) (N := 4) rfl rfl hl.1 rfl (Nat.le_of_ble_eq_true rfl) dX5_takeSpeaker_4 (fun r_1 M_2 H locs hw_2 h => ?_)
  obtain ⟨eM_2, er_1⟩ := hw_2
  rw [tAt_of hpm, show tSk (M.1 241) ty p = (tQ (M.1 241) ty (m)) from hpm] at eM_2
  rw [tAt_of hpm] at er_1
  have h241M_2 : M_2.1 241 = M.1 241 := (show M_2.1 241 = M.1 241 from by rw [eM_2, u_set_far (by decide)]).trans (rfl : M.1 241 = M.1 241)
  have ht0M_2 : tI M M_2 nn := tI_trans (tI_refl M nn) (show tI M M_2 nn from by rw [eM_2]; exact tI_place _ _ _)
  have htyM_2 : M_2.1 240 1 = nI ty := by rw [eM_2, u_set1, if_pos rfl, if_neg (by decide)]; exact hty
  refine lv_istore_n (lv' := [(1, .int r_1), (0, .ref (E.2.1 240))]) hx hb dX5_takeSpeaker_7 rfl hl (by decide) rfl (fun ls hl => ?_)
  refine lv_iload_n hx hb dX5_takeSpeaker_8 rfl (lv_at hl 0 rfl) ?_
  refine lv_if_ge (tgt := 14) hx hb dX5_takeSpeaker_9 (by decide) (fun c_3 => ?_) (fun c_3 => ?_)
  · skip
    obtain ⟨hgM_2, hrM_2⟩ := t_ge er_1 (by decide) c_3
    have hpM_2 : M_2.1 240 2 = nI (tN (M.1 241) ty (m + 1)) := by rw [eM_2, if_pos hgM_2]; rfl
    have hqM_2 : (tN (M.1 241) ty (m + 1)) ≤ ty := t_lt (k := 3) (by decide) (by decide) hgM_2
    refine lv_aload_n hx hb dX5_takeSpeaker_14 rfl (lv_at hl 1 rfl) ?_
    refine va_ldcS hx hb hown hT.2.2.2.2.2.2.1 dX5_takeSpeaker_15 ?_
    refine lv_iconst (v := 0) hx hb dX5_takeSpeaker_17 (by decide) ?_
    refine ut_callVi C hT h (k := 240) (As := [.ref (S.1 4), .int 0]) (rest := []) (k_X5_take l E hI S M_2 4 (by decide) 0 ty htyM_2 hty90 (by rw [h241M_2]; exact hch) (tN (M.1 241) ty (m + 1)) hpM_2 hqM_2) (cwV 2 hts gX5_takeSpeaker_X5_take rfl rfl rfl (by decide +kernel) ⟨Nat.le_of_ble_eq_true rfl, Nat.le_of_ble_eq_true rfl⟩) (by decide) (uc_240 E _) (T := TX5) (N := 4) rfl rfl hl.1 rfl (Nat.le_of_ble_eq_true rfl) dX5_takeSpeaker_18 (fun r_4 M_5 H locs hw_5 h => ?_)
    obtain ⟨eM_5, er_4⟩ := hw_5
    rw [h241M_2] at eM_5 er_4
    rw [tAt_of rfl, show tSk (M.1 241) ty (tN (M.1 241) ty (m + 1)) = (tQ (M.1 241) ty (m + 1)) from rfl] at eM_5
    rw [tAt_of rfl] at er_4
    have h241M_5 : M_5.1 241 = M.1 241 := (show M_5.1 241 = M_2.1 241 from by rw [eM_5, u_set_far (by decide)]).trans h241M_2
    have ht0M_5 : tI M M_5 nn := tI_trans ht0M_2 (show tI M_2 M_5 nn from by rw [eM_5]; exact tI_place _ _ _)
    have htyM_5 : M_5.1 240 1 = nI ty := by rw [eM_5, u_set1, if_pos rfl, if_neg (by decide)]; exact htyM_2
    refine lv_istore_n (lv' := [(2, .int r_4), (1, .int r_1), (0, .ref (E.2.1 240))]) hx hb dX5_takeSpeaker_21 rfl hl (by decide) rfl (fun ls hl => ?_)
    refine lv_iload_n hx hb dX5_takeSpeaker_22 rfl (lv_at hl 0 rfl) ?_
    refine lv_if_ge (tgt := 28) hx hb dX5_takeSpeaker_23 (by decide) (fun c_6 => ?_) (fun c_6 => ?_)
    · skip
      obtain ⟨hgM_5, hrM_5⟩ := t_ge er_4 (by decide) c_6
      have hpM_5 : M_5.1 240 2 = nI (tN (M.1 241) ty (m + 1 + 1)) := by rw [eM_5, if_pos hgM_5]; rfl
      have hqM_5 : (tN (M.1 241) ty (m + 1 + 1)) ≤ ty := t_lt (k := 4) (by decide) (by decide) hgM_5
      refine lv_aload_n hx hb dX5_takeSpeaker_28 rfl (lv_at hl 2 rfl) ?_
      refine ur_get C h 240 (by decide) (uc_240 E _) (Cn := RX5) (T := TX5) (N := 4) rfl hin5 3 (by decide) (by decide +kernel) rfl dX5_takeSpeaker_29 ?_
      refine lv_iload_n hx hb dX5_takeSpeaker_32 rfl (lv_at hl 1 rfl) ?_
      refine lv_iload_n hx hb dX5_takeSpeaker_33 rfl (lv_at hl 0 rfl) ?_
      refine ur_callVi C h (k := 157) (As := [.int r_1, .int r_4]) (rest := []) (k_X1_addSpeaker_157 l E hI M_5 r_1 r_4 nn ((by rw [eM_5, u_set_far (by decide)]; exact (by rw [eM_2, u_set_far (by decide)]; exact hnn))) (by omega)) (cwV 2 hts gX5_takeSpeaker_X1_addSpeaker rfl rfl rfl (by decide +kernel) ⟨Nat.le_of_ble_eq_true rfl, Nat.le_of_ble_eq_true rfl⟩) (by decide) (uc_157 E _) (T := TX1) (N := 11) rfl rfl hl.1 rfl (Nat.le_of_ble_eq_true rfl) dX5_takeSpeaker_34 (fun r_7 M_8 H locs hw_8 h => ?_)
      obtain ⟨eM_8, er_7⟩ := hw_8
      refine ur_eq (y := nI nn) er_7 ?_
      have h241M_8 : M_8.1 241 = M.1 241 := by rw [eM_8]; exact h241M_5
      have htyM_8 : M_8.1 240 1 = nI ty := by rw [eM_8]; exact htyM_5
      have hpM_8 : M_8.1 240 2 = nI (tN (M.1 241) ty (m + 1 + 1)) := by rw [eM_8]; exact hpM_5
      have ht0M_8 : tI M M_8 nn := tI_trans ht0M_5 (show tI M_5 M_8 nn from by rw [eM_8]; exact tI_add _ _ _ _)
      refine lv_istore_n (lv' := [(3, .int (nI nn)), (2, .int r_4), (1, .int r_1), (0, .ref (E.2.1 240))]) hx hb dX5_takeSpeaker_37 rfl hl (by decide) rfl (fun ls hl => ?_)
      refine lv_iconst (v := 0) hx hb dX5_takeSpeaker_38 (by decide) ?_
      refine lv_istore (lv' := [(4, .int 0), (3, .int (nI nn)), (2, .int r_4), (1, .int r_1), (0, .ref (E.2.1 240))]) hx hb dX5_takeSpeaker_39 hl (by decide) rfl (fun ls hl => ?_)
      have lp41 : ∀ (n41 : Nat) (j : Nat) (Mj : uM), 6 - j < n41 → (j ≤ 6) → (tI M Mj nn) → (Mj.1 240 2 = nI (tN (M.1 241) ty (m + 2 + j))) → ((tN (M.1 241) ty (m + 2 + j)) ≤ ty) → (Mj.1 157 0 = nI (nn + 1)) → (Mj.1 158 nn = tIx 3 (tS (M.1 241) ty (m)) ∧ Mj.1 159 nn = tIx 4 (tS (M.1 241) ty (m + 1)) ∧ Mj.1 164 nn = 0 ∧ Mj.1 165 nn = 0) → (∀ i, i < j → Mj.1 160 (nn * 6 + i) = tIx 0 (tS (M.1 241) ty (m + 2 + i))) → (fRun (tS (M.1 241) ty) m (2 + j) (6 - j) = fRun (tS (M.1 241) ty) m 0 8) → ∀ (H : Heap) (locs : List Loc) (ls : Array Slot), uH E Mj s_ H locs → lv_has ls 6 [(4, .int (nI j)), (3, .int (nI nn)), (2, .int r_4), (1, .int r_1), (0, .ref (E.2.1 240))] → W p_ l e_ ({ frames := 5, cells := 0, slots := 0, locals := 114 }) s_ m_ (List.toArray [.ref (E.2.1 240)]) bl_ me_ c_ H locs 0 0 (MQ bl_ (va_Qi (fun r u => tI M u nn ∧ if (fRun (tS (M.1 241) ty) m 0 8) = 8 then r = 1 ∧ u.1 157 0 = nI (nn + 1) ∧ u.1 240 2 = nI (tN (M.1 241) ty (m + 8)) ∧ (tN (M.1 241) ty (m + 8)) ≤ ty ∧ tDat (tS (M.1 241) ty) u nn m else r = 0 ∧ u.1 240 2 = nI (tQ (M.1 241) ty (m + (fRun (tS (M.1 241) ty) m 0 8)))) (uP E) (uA E)) (List.toArray [.ref (E.2.1 240)]) s_ 0 0 (uA E)) (F0 m_ 41 ls []) := by
        intro n41
        induction n41 with
        | zero => intro j Mj hms; exact absurd hms (Nat.not_lt_zero _)
        | succ n41 ih41 =>
          intro j Mj hms41 hj hti hpl hql hsp hdt hcan hrun H locs ls h hl
          refine lv_iload hx hb dX5_takeSpeaker_41 (lv_at hl 0 rfl) ?_
          refine lv_bipush (v := 6) hx hb dX5_takeSpeaker_43 (by decide) ?_
          refine lv_icmp_ge (tgt := 87) hx hb dX5_takeSpeaker_45 (by decide) (fun c_9 => ?_) (fun c_9 => ?_)
          · skip
            have c_9 : 6 ≤ j := (nI_leI (a := 6) (b := j) (by omega) (by omega)).mp c_9
            refine lv_iconst (v := 1) hx hb dX5_takeSpeaker_87 (by decide) ?_
            exact ur_zret C h hr (by rfl) hlocks (by have h8 : (fRun (tS (M.1 241) ty) m 0 8) = 8 := (by rw [← hrun, show 6 - j = 0 by omega]; show 2 + j = 8; omega); have hj6 : j = 6 := (by omega); subst hj6; exact ⟨hti, by rw [if_pos h8]; exact ⟨rfl, hsp, hpl, hql, hdt, fun i hi => hcan i hi⟩⟩) dX5_takeSpeaker_88
          · skip
            have c_9 : ¬ 6 ≤ j := fun z => c_9 ((nI_leI (a := 6) (b := j) (by omega) (by omega)).mpr z)
            refine lv_aload_n hx hb dX5_takeSpeaker_48 rfl (lv_at hl 4 rfl) ?_
            refine va_ldcS hx hb hown hT.2.2.1 dX5_takeSpeaker_49 ?_
            refine lv_iconst (v := 0) hx hb dX5_takeSpeaker_51 (by decide) ?_
            refine ut_callVi C hT h (k := 240) (As := [.ref (S.1 0), .int 0]) (rest := []) (k_X5_take l E hI S Mj 0 (by decide) 0 ty ((hti.1.2.2.1 1 (by decide)).trans hty) hty90 (by rw [(hti.1.1 241 (by decide) (by decide))]; exact hch) (tN (M.1 241) ty (m + 2 + j)) hpl hql) (cwV 2 hts gX5_takeSpeaker_X5_take rfl rfl rfl (by decide +kernel) ⟨Nat.le_of_ble_eq_true rfl, Nat.le_of_ble_eq_true rfl⟩) (by decide) (uc_240 E _) (T := TX5) (N := 4) rfl rfl hl.1 rfl (Nat.le_of_ble_eq_true rfl) dX5_takeSpeaker_52 (fun r_10 M_11 H locs hw_11 h => ?_)
            obtain ⟨eM_11, er_10⟩ := hw_11
            rw [(hti.1.1 241 (by decide) (by decide))] at eM_11 er_10
            rw [tAt_of rfl, show tSk (M.1 241) ty (tN (M.1 241) ty (m + 2 + j)) = (tQ (M.1 241) ty (m + 2 + j)) from rfl] at eM_11
            rw [tAt_of rfl] at er_10
            have h241M_11 : M_11.1 241 = M.1 241 := (show M_11.1 241 = Mj.1 241 from by rw [eM_11, u_set_far (by decide)]).trans (hti.1.1 241 (by decide) (by decide))
            have ht0M_11 : tI M M_11 nn := tI_trans hti (show tI Mj M_11 nn from by rw [eM_11]; exact tI_place _ _ _)
            have htyM_11 : M_11.1 240 1 = nI ty := by rw [eM_11, u_set1, if_pos rfl, if_neg (by decide)]; exact ((hti.1.2.2.1 1 (by decide)).trans hty)
            refine lv_istore (lv' := [(5, .int r_10), (4, .int (nI j)), (3, .int (nI nn)), (2, .int r_4), (1, .int r_1), (0, .ref (E.2.1 240))]) hx hb dX5_takeSpeaker_55 hl (by decide) rfl (fun ls hl => ?_)
            refine lv_iload hx hb dX5_takeSpeaker_57 (lv_at hl 0 rfl) ?_
            refine lv_if_ge (tgt := 64) hx hb dX5_takeSpeaker_59 (by decide) (fun c_12 => ?_) (fun c_12 => ?_)
            · skip
              obtain ⟨hgM_11, hrM_11⟩ := t_ge er_10 (by decide) c_12
              have hpM_11 : M_11.1 240 2 = nI (tN (M.1 241) ty (m + 2 + j + 1)) := by rw [eM_11, if_pos hgM_11]; rfl
              have hqM_11 : (tN (M.1 241) ty (m + 2 + j + 1)) ≤ ty := t_lt (k := 0) (by decide) (by decide) hgM_11
              refine lv_aload_n hx hb dX5_takeSpeaker_64 rfl (lv_at hl 5 rfl) ?_
              refine ur_get C h 240 (by decide) (uc_240 E _) (Cn := RX5) (T := TX5) (N := 4) rfl hin5 3 (by decide) (by decide +kernel) rfl dX5_takeSpeaker_65 ?_
              refine ur_get C h 157 (by decide) (uc_157 E _) (Cn := RX1) (T := TX1) (N := 11) rfl hin1 3 (by decide) (by decide +kernel) rfl dX5_takeSpeaker_68 ?_
              refine lv_iload_n hx hb dX5_takeSpeaker_71 rfl (lv_at hl 2 rfl) ?_
              refine lv_bipush (v := 6) hx hb dX5_takeSpeaker_72 (by decide) ?_
              refine lv_imul hx hb dX5_takeSpeaker_74 ?_
              refine ur_eq (y := nI (nn * 6)) (pk_mul nn 6) ?_
              refine lv_iload hx hb dX5_takeSpeaker_75 (lv_at hl 1 rfl) ?_
              refine lv_iadd hx hb dX5_takeSpeaker_77 ?_
              refine ur_eq (y := nI (nn * 6 + j)) (nI_add (nn * 6) j) ?_
              refine lv_iload hx hb dX5_takeSpeaker_78 (lv_at hl 0 rfl) ?_
              refine ur_iast C h 160 (by decide) (uc_160 E) (nn * 6 + j) (by omega) (by decide) dX5_takeSpeaker_80 (fun M_13 H locs eM_13 h => ?_)
              refine lv_iinc (v := nI (j + 1)) (lv' := [(4, .int (nI (j + 1))), (5, .int r_10), (3, .int (nI nn)), (2, .int r_4), (1, .int r_1), (0, .ref (E.2.1 240))]) hx hb dX5_takeSpeaker_81 hl (k := 1) rfl (nI_add j 1) (by decide) rfl (fun ls hl => ?_)
              refine lv_goto (tgt := 41) hx hb dX5_takeSpeaker_84 (by decide) ?_
              exact ih41  (j + 1) M_13 (by omega) (by omega) (tI_trans ht0M_11 (show tI M_11 M_13 nn from by rw [eM_13]; exact tI_can _ _ (by omega))) (by rw [eM_13]; exact hpM_11) hqM_11 (by rw [eM_13, u_set_far (by decide), eM_11, u_set_far (by decide)]; exact hsp) (by rw [eM_13, u_set_far (by decide), u_set_far (by decide), u_set_far (by decide), u_set_far (by decide), eM_11, u_set_far (by decide), u_set_far (by decide), u_set_far (by decide), u_set_far (by decide)]; exact hdt) (fun i h => by rw [eM_13, u_set1, if_pos rfl]; rcases Nat.lt_or_ge i j with z | z; (rw [if_neg (by omega), eM_11, u_set_far (by decide)]; exact hcan i z); (rw [if_pos (by omega), hrM_11, show i = j by omega])) (by rw [← hrun, show 6 - j = 6 - (j + 1) + 1 by omega, fRun_g (by rw [gK2, ← Nat.add_assoc]; exact hgM_11)]; rfl) _ _ _ h (lv_sub hl [0, 2, 3, 4, 5] rfl)
            · skip
              have hbM_11 := t_nge er_10 (by decide) c_12
              have hpM_11 : M_11.1 240 2 = nI (tQ (M.1 241) ty (m + 2 + j)) := by rw [eM_11, if_neg hbM_11]; rfl
              refine lv_iconst (v := 0) hx hb dX5_takeSpeaker_62 (by decide) ?_
              exact ur_zret C h hr (by rfl) hlocks (by have hf : (fRun (tS (M.1 241) ty) m 0 8) = 2 + j := (by rw [← hrun, show 6 - j = 6 - (j + 1) + 1 by omega, fRun_b (by rw [gK2, ← Nat.add_assoc]; exact hbM_11)]); exact ⟨ht0M_11, by rw [if_neg (by omega), hf]; exact ⟨rfl, by rw [← Nat.add_assoc]; exact hpM_11⟩⟩) dX5_takeSpeaker_63
      have hrun0 : fRun (tS (M.1 241) ty) m 2 6 = fRun (tS (M.1 241) ty) m 0 8 := ((fRun_g (j := 0) (f := 7) (show 0 ≤ tIx 3 ((tS (M.1 241) ty) m) from hgM_2)).trans (fRun_g (j := 1) (f := 6) (show 0 ≤ tIx 4 ((tS (M.1 241) ty) (m + 1)) from hgM_5))).symm
      exact lp41 _ 0 M_8 (Nat.lt_succ_self _) (by omega) ht0M_8 hpM_8 hqM_5 (by rw [eM_8]; rfl) (by rw [eM_8, hrM_2, hrM_5]; exact xAddS_at _ _ _ _) (fun i h => absurd h (Nat.not_lt_zero i)) hrun0 _ _ _ h (lv_sub hl [0, 1, 2, 3, 4] rfl)
    · skip
      have hbM_5 := t_nge er_4 (by decide) c_6
      have hpM_5 : M_5.1 240 2 = nI (tQ (M.1 241) ty (m + 1)) := by rw [eM_5, if_neg hbM_5]; rfl
      refine lv_iconst (v := 0) hx hb dX5_takeSpeaker_26 (by decide) ?_
      exact ur_zret C h hr (by rfl) hlocks (by have hf : (fRun (tS (M.1 241) ty) m 0 8) = 1 := (fRun_g (j := 0) (f := 7) (show 0 ≤ tIx 3 ((tS (M.1 241) ty) m) from hgM_2)).trans (fRun_b (j := 1) (f := 6) (show ¬ 0 ≤ tIx 4 ((tS (M.1 241) ty) (m + 1)) from hbM_5)); exact ⟨ht0M_5, by rw [if_neg (by omega), hf]; exact ⟨rfl, hpM_5⟩⟩) dX5_takeSpeaker_27
  · skip
    have hbM_2 := t_nge er_1 (by decide) c_3
    have hpM_2 : M_2.1 240 2 = nI (tQ (M.1 241) ty (m)) := by rw [eM_2, if_neg hbM_2]; rfl
    refine lv_iconst (v := 0) hx hb dX5_takeSpeaker_12 (by decide) ?_
    exact ur_zret C h hr (by rfl) hlocks (by have hf : (fRun (tS (M.1 241) ty) m 0 8) = 0 := fRun_b (j := 0) (f := 7) (show ¬ 0 ≤ tIx 3 ((tS (M.1 241) ty) m) from hbM_2); exact ⟨ht0M_2, by rw [if_neg (by omega), hf]; exact ⟨rfl, hpM_2⟩⟩) dX5_takeSpeaker_13
