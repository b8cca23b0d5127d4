set_option maxHeartbeats 1000000 in
set_option maxRecDepth 100000 in
theorem k_X5_takeWords (l : Launch) (E : uE) (hI : uI E) (S : uS) (M : uM) (ty : Nat) (hty : M.1 240 1 = nI ty) (hty90 : ty ≤ 90) (hch : ∀ i, i < ty → narrow .char (.int (M.1 241 i)) = .int (M.1 241 i)) (p : Nat) (hp : M.1 240 2 = nI p) (hpt : p ≤ ty) (m : Nat) (hpm : tSk (M.1 241) ty p = tQ (M.1 241) ty m) (hm0 : (tN (M.1 241) ty (m)) ≤ ty) (hww0 : M.1 157 4 = nI 0) : Met l yX5_takeWords wsX5_takeWords ({ frames := 6, cells := 0, slots := 0, locals := 137 }) (va_Pc [.ref (E.2.1 240)] (uBt E S M)) (va_Qi (fun r u => tJ M u 0 ∧ tWdsPost (tS (M.1 241) ty) (M.1 241) ty u r m (fWds (tS (M.1 241) ty) m 0 6)) (uP E) (uA E)) 0 0 (uA E) := by
  refine u_startT (cc := cX5_takeWords) (maxL := 2) (ret := (some .boolean)) hI (by decide) rfl (Nat.le_of_ble_eq_true rfl) ?_
  intro p_ e_ s_ m_ bl_ me_ c_ C hT hr hlocks h ls hl
  have hx := C.1.1
  have hb := C.1.2.1
  have hown : s_.vm.findClass RX5 = some m_.cls := C.1.2.2.2.1
  have hts := C.1.2.2.2.2
  have hl : lv_has ls 2 [(0, .ref (E.2.1 240))] := hl
  refine lv_aload_n hx hb dX5_takeWords_0 rfl (lv_at hl 0 rfl) ?_
  refine ut_callVi C hT h (k := 240) (As := []) (rest := []) (k_X5_takeWord l E hI S M ty hty hty90 hch p hp hpt (m) hpm hm0 0 hww0 (by omega)) (cwV 0 hts gX5_takeWords_X5_takeWord rfl rfl rfl (by decide +kernel) ⟨Nat.le_of_ble_eq_true rfl, Nat.le_of_ble_eq_true rfl⟩) (by decide) (uc_240 E _) (T := TX5) (N := 4) rfl rfl hl.1 rfl (Nat.le_of_ble_eq_true rfl) dX5_takeWords_1 (fun r_1 M_2 H locs hw_2 h => ?_)
  obtain ⟨ht1M_2, hresM_2⟩ := hw_2
  have er_1 := tSps_if hresM_2
  have h241M_2 : M_2.1 241 = M.1 241 := (ht1M_2.1.1 241 (by decide) (by decide)).trans (rfl : M.1 241 = M.1 241)
  have htyM_2 : M_2.1 240 1 = nI ty := (ht1M_2.1.2.2.1 1 (by decide)).trans hty
  have ht0M_2 : tJ M M_2 0 := tJ_trans (tJ_refl M 0) (tJ_weak ht1M_2)
  refine lv_if_ne (tgt := 9) hx hb dX5_takeWords_4 (by decide) (fun c_3 => ?_) (fun c_3 => ?_)
  · skip
    have c_3 : (fW (tS (M.1 241) ty) (m)).1 ≠ m := uz_t er_1 c_3
    rw [if_pos c_3] at hresM_2
    obtain ⟨-, hspM_2, hplM_2, hqlM_2, hd1M_2, hd2M_2⟩ := hresM_2
    refine lv_iconst (v := 1) hx hb dX5_takeWords_9 (by decide) ?_
    refine lv_istore_n (lv' := [(1, .int 1), (0, .ref (E.2.1 240))]) hx hb dX5_takeWords_10 rfl hl (by decide) rfl (fun ls hl => ?_)
    have lp11 : ∀ (n11 : Nat) (t : Nat) (Mt : uM), 6 - t < n11 → (t < 6) → (tJ M Mt 0) → (Mt.1 157 4 = nI (t + 1)) → (Mt.1 240 2 = nI (tQ (M.1 241) ty ((fW (tS (M.1 241) ty) (tWs (tS (M.1 241) ty) m t)).1))) → ((tN (M.1 241) ty ((fW (tS (M.1 241) ty) (tWs (tS (M.1 241) ty) m t)).1)) ≤ ty) → (∀ i, i < t + 1 → Mt.1 161 i = nI (fW (tS (M.1 241) ty) (tWs (tS (M.1 241) ty) m i)).2 ∧ Mt.1 166 i = 0) → (fWds (tS (M.1 241) ty) m 0 6 = fAfW (tS (M.1 241) ty) ((fW (tS (M.1 241) ty) (tWs (tS (M.1 241) ty) m t)).1) (t + 1) (5 - t)) → ∀ (H : Heap) (locs : List Loc) (ls : Array Slot), uH E Mt s_ H locs → lv_has ls 2 [(1, .int (nI (t + 1))), (0, .ref (E.2.1 240))] → W p_ l e_ ({ frames := 6, cells := 0, slots := 0, locals := 137 }) s_ m_ (List.toArray [.ref (E.2.1 240)]) bl_ me_ c_ H locs 0 0 (MQ bl_ (va_Qi (fun r u => tJ M u 0 ∧ tWdsPost (tS (M.1 241) ty) (M.1 241) ty u r m (fWds (tS (M.1 241) ty) m 0 6)) (uP E) (uA E)) (List.toArray [.ref (E.2.1 240)]) s_ 0 0 (uA E)) (F0 m_ 11 ls []) := by
      intro n11
      induction n11 with
      | zero => intro t Mt hms; exact absurd hms (Nat.not_lt_zero _)
      | succ n11 ih11 =>
        intro t Mt hms11 ht6 hti hsp hpl hql hdat hsps H locs ls h hl
        refine lv_iload_n hx hb dX5_takeWords_11 rfl (lv_at hl 0 rfl) ?_
        refine lv_bipush (v := 6) hx hb dX5_takeWords_12 (by decide) ?_
        refine lv_icmp_ge (tgt := 42) hx hb dX5_takeWords_14 (by decide) (fun c_4 => ?_) (fun c_4 => ?_)
        · skip
          have c_4 : 6 ≤ (t + 1) := (nI_leI (a := 6) (b := (t + 1)) (by omega) (by omega)).mp c_4
          have ht5 : t = 5 := by omega
          refine lv_aload_n hx hb dX5_takeWords_42 rfl (lv_at hl 1 rfl) ?_
          refine ur_callVi C h (k := 240) (As := []) (rest := []) (k_X5_nextLetter l E hI Mt ty ((hti.1.2.2.1 1 (by decide)).trans hty) hty90 (by rw [(hti.1.1 241 (by decide) (by decide))]; exact hch) (tQ (M.1 241) ty ((fW (tS (M.1 241) ty) (tWs (tS (M.1 241) ty) m t)).1)) hpl (tQ_le hql)) (cwV 0 hts gX5_takeWords_X5_nextLetter rfl rfl rfl (by decide +kernel) ⟨Nat.le_of_ble_eq_true rfl, Nat.le_of_ble_eq_true rfl⟩) (by decide) (uc_240 E _) (T := TX5) (N := 4) rfl rfl hl.1 rfl (Nat.le_of_ble_eq_true rfl) dX5_takeWords_43 (fun r_5 M_6 H locs hw_6 h => ?_)
          obtain ⟨eM_6, er_5⟩ := hw_6
          rw [(hti.1.1 241 (by decide) (by decide))] at eM_6 er_5
          rw [tAt_of tQ_sk] at er_5
          rw [show tSk (M.1 241) ty (tQ (M.1 241) ty ((fW (tS (M.1 241) ty) (tWs (tS (M.1 241) ty) m t)).1)) = (tQ (M.1 241) ty ((fW (tS (M.1 241) ty) (tWs (tS (M.1 241) ty) m t)).1)) from tQ_sk] at eM_6
          have ht0M_6 : tJ M M_6 0 := tJ_trans hti (show tJ Mt M_6 0 from by rw [eM_6]; exact tJ_place _ _ _)
          have hpM_6 : M_6.1 240 2 = nI (tQ (M.1 241) ty ((fW (tS (M.1 241) ty) (tWs (tS (M.1 241) ty) m t)).1)) := by rw [eM_6]; rfl
          refine lv_if_ne (tgt := 53) hx hb dX5_takeWords_46 (by decide) (fun c_7 => ?_) (fun c_7 => ?_)
          · skip
            refine lv_iconst (v := 0) hx hb dX5_takeWords_53 (by decide) ?_
            have hend : ¬ (tS (M.1 241) ty ((fW (tS (M.1 241) ty) (tWs (tS (M.1 241) ty) m t)).1)) = 0 := er_5 ▸ c_7
            exact ur_zret C h hr (by rfl) hlocks (by subst ht5; have hA2 : (fWds (tS (M.1 241) ty) m 0 6).2 = ((fW (tS (M.1 241) ty) (tWs (tS (M.1 241) ty) m 5)).1, 5 + 1) := (by rw [hsps]; exact fAfW_0 _ _ _); exact ⟨ht0M_6, by unfold tWdsPost; rw [hA2, if_neg (fun z => hend z.2)]; exact ⟨rfl, hpM_6⟩⟩) dX5_takeWords_54
          · skip
            refine lv_iconst (v := 1) hx hb dX5_takeWords_49 (by decide) ?_
            refine lv_goto (tgt := 54) hx hb dX5_takeWords_50 (by decide) ?_
            have hend : (tS (M.1 241) ty ((fW (tS (M.1 241) ty) (tWs (tS (M.1 241) ty) m t)).1)) = 0 := er_5 ▸ c_7
            exact ur_zret C h hr (by rfl) hlocks (by subst ht5; exact ⟨ht0M_6, by rw [show fWds (tS (M.1 241) ty) m 0 6 = (true, (fW (tS (M.1 241) ty) (tWs (tS (M.1 241) ty) m 5)).1, 5 + 1) from hsps.trans (fAfW_n (t20 hend))]; unfold tWdsPost; rw [if_pos ⟨rfl, hend⟩]; exact ⟨rfl, (by rw [eM_6, u_set_far (by decide)]; exact hsp), (fun i hi => by rw [eM_6, u_set_far (by decide), u_set_far (by decide)]; exact hdat i hi)⟩⟩) dX5_takeWords_54
        · skip
          have c_4 : ¬ 6 ≤ (t + 1) := fun z => c_4 ((nI_leI (a := 6) (b := (t + 1)) (by omega) (by omega)).mpr z)
          refine lv_aload_n hx hb dX5_takeWords_17 rfl (lv_at hl 1 rfl) ?_
          refine va_ldcS hx hb hown hT.2.2.2.2.1 dX5_takeWords_18 ?_
          refine lv_iconst (v := 0) hx hb dX5_takeWords_20 (by decide) ?_
          refine ut_callVi C hT h (k := 240) (As := [.ref (S.1 2), .int 0]) (rest := []) (k_X5_take l E hI S Mt 2 (by decide) 0 ty ((hti.1.2.2.1 1 (by decide)).trans hty) hty90 (by rw [(hti.1.1 241 (by decide) (by decide))]; exact hch) (tQ (M.1 241) ty ((fW (tS (M.1 241) ty) (tWs (tS (M.1 241) ty) m t)).1)) hpl (tQ_le hql)) (cwV 2 hts gX5_takeWords_X5_take rfl rfl rfl (by decide +kernel) ⟨Nat.le_of_ble_eq_true rfl, Nat.le_of_ble_eq_true rfl⟩) (by decide) (uc_240 E _) (T := TX5) (N := 4) rfl rfl hl.1 rfl (Nat.le_of_ble_eq_true rfl) dX5_takeWords_21 (fun r_8 M_9 H locs hw_9 h => ?_)
          obtain ⟨eM_9, er_8⟩ := hw_9
          rw [(hti.1.1 241 (by decide) (by decide))] at eM_9 er_8
          rw [tAt_of tQ_sk, show tSk (M.1 241) ty (tQ (M.1 241) ty ((fW (tS (M.1 241) ty) (tWs (tS (M.1 241) ty) m t)).1)) = (tQ (M.1 241) ty ((fW (tS (M.1 241) ty) (tWs (tS (M.1 241) ty) m t)).1)) from tQ_sk] at eM_9
          rw [tAt_of tQ_sk] at er_8
          have h241M_9 : M_9.1 241 = M.1 241 := (show M_9.1 241 = Mt.1 241 from by rw [eM_9, u_set_far (by decide)]).trans (hti.1.1 241 (by decide) (by decide))
          have ht0M_9 : tJ M M_9 0 := tJ_trans hti (show tJ Mt M_9 0 from by rw [eM_9]; exact tJ_place _ _ _)
          have htyM_9 : M_9.1 240 1 = nI ty := by rw [eM_9, u_set1, if_pos rfl, if_neg (by decide)]; exact ((hti.1.2.2.1 1 (by decide)).trans hty)
          refine lv_if_lt (tgt := 42) hx hb dX5_takeWords_24 (by decide) (fun c_10 => ?_) (fun c_10 => ?_)
          · skip
            have c_10 := Int32.not_le.mpr c_10
            have hbM_9 := t_nge er_8 (by decide) c_10
            have hpM_9 : M_9.1 240 2 = nI (tQ (M.1 241) ty ((fW (tS (M.1 241) ty) (tWs (tS (M.1 241) ty) m t)).1)) := by rw [eM_9, if_neg hbM_9]; rfl
            have hA : fWds (tS (M.1 241) ty) m 0 6 = (true, (fW (tS (M.1 241) ty) (tWs (tS (M.1 241) ty) m t)).1, t + 1) := hsps.trans (fAfW_n hbM_9)
            refine lv_aload_n hx hb dX5_takeWords_42 rfl (lv_at hl 1 rfl) ?_
            refine ur_callVi C h (k := 240) (As := []) (rest := []) (k_X5_nextLetter l E hI M_9 ty htyM_9 hty90 (by rw [h241M_9]; exact hch) (tQ (M.1 241) ty ((fW (tS (M.1 241) ty) (tWs (tS (M.1 241) ty) m t)).1)) hpM_9 (tQ_le hql)) (cwV 0 hts gX5_takeWords_X5_nextLetter rfl rfl rfl (by decide +kernel) ⟨Nat.le_of_ble_eq_true rfl, Nat.le_of_ble_eq_true rfl⟩) (by decide) (uc_240 E _) (T := TX5) (N := 4) rfl rfl hl.1 rfl (Nat.le_of_ble_eq_true rfl) dX5_takeWords_43 (fun r_11 M_12 H locs hw_12 h => ?_)
            obtain ⟨eM_12, er_11⟩ := hw_12
            rw [h241M_9] at eM_12 er_11
            rw [tAt_of tQ_sk] at er_11
            rw [show tSk (M.1 241) ty (tQ (M.1 241) ty ((fW (tS (M.1 241) ty) (tWs (tS (M.1 241) ty) m t)).1)) = (tQ (M.1 241) ty ((fW (tS (M.1 241) ty) (tWs (tS (M.1 241) ty) m t)).1)) from tQ_sk] at eM_12
            have ht0M_12 : tJ M M_12 0 := tJ_trans ht0M_9 (show tJ M_9 M_12 0 from by rw [eM_12]; exact tJ_place _ _ _)
            have hpM_12 : M_12.1 240 2 = nI (tQ (M.1 241) ty ((fW (tS (M.1 241) ty) (tWs (tS (M.1 241) ty) m t)).1)) := by rw [eM_12]; rfl
            refine lv_if_ne (tgt := 53) hx hb dX5_takeWords_46 (by decide) (fun c_13 => ?_) (fun c_13 => ?_)
            · skip
              refine lv_iconst (v := 0) hx hb dX5_takeWords_53 (by decide) ?_
              have hend : ¬ (tS (M.1 241) ty ((fW (tS (M.1 241) ty) (tWs (tS (M.1 241) ty) m t)).1)) = 0 := er_11 ▸ c_13
              exact ur_zret C h hr (by rfl) hlocks (⟨ht0M_12, by rw [hA]; unfold tWdsPost; rw [if_neg (fun z => hend z.2)]; exact ⟨rfl, hpM_12⟩⟩) dX5_takeWords_54
            · skip
              refine lv_iconst (v := 1) hx hb dX5_takeWords_49 (by decide) ?_
              refine lv_goto (tgt := 54) hx hb dX5_takeWords_50 (by decide) ?_
              have hend : (tS (M.1 241) ty ((fW (tS (M.1 241) ty) (tWs (tS (M.1 241) ty) m t)).1)) = 0 := er_11 ▸ c_13
              exact ur_zret C h hr (by rfl) hlocks (⟨ht0M_12, by rw [hA]; unfold tWdsPost; rw [if_pos ⟨rfl, hend⟩]; exact ⟨rfl, (by rw [eM_12, u_set_far (by decide)]; exact (by rw [eM_9, u_set_far (by decide)]; exact hsp)), (fun i hi => by rw [eM_12, u_set_far (by decide), u_set_far (by decide), eM_9, u_set_far (by decide), u_set_far (by decide)]; exact hdat i hi)⟩⟩) dX5_takeWords_54
          · skip
            have c_10 := Int32.not_lt.mp c_10
            obtain ⟨hgM_9, hrM_9⟩ := t_ge er_8 (by decide) c_10
            have hpM_9 : M_9.1 240 2 = nI (tN (M.1 241) ty ((fW (tS (M.1 241) ty) (tWs (tS (M.1 241) ty) m t)).1 + 1)) := by rw [eM_9, if_pos hgM_9]; rfl
            have hqM_9 : (tN (M.1 241) ty ((fW (tS (M.1 241) ty) (tWs (tS (M.1 241) ty) m t)).1 + 1)) ≤ ty := t_lt (k := 2) (by decide) (by decide) hgM_9
            refine lv_aload_n hx hb dX5_takeWords_27 rfl (lv_at hl 1 rfl) ?_
            refine ut_callVi C hT h (k := 240) (As := []) (rest := []) (k_X5_takeWord l E hI S M_9 ty htyM_9 hty90 (by rw [h241M_9]; exact hch) (tN (M.1 241) ty ((fW (tS (M.1 241) ty) (tWs (tS (M.1 241) ty) m t)).1 + 1)) hpM_9 hqM_9 ((fW (tS (M.1 241) ty) (tWs (tS (M.1 241) ty) m t)).1 + 1) (by rw [h241M_9]; exact rfl) (by rw [h241M_9]; exact hqM_9) (t + 1) (by rw [eM_9, u_set_far (by decide)]; exact hsp) (by omega)) (cwV 0 hts gX5_takeWords_X5_takeWord rfl rfl rfl (by decide +kernel) ⟨Nat.le_of_ble_eq_true rfl, Nat.le_of_ble_eq_true rfl⟩) (by decide) (uc_240 E _) (T := TX5) (N := 4) rfl rfl hl.1 rfl (Nat.le_of_ble_eq_true rfl) dX5_takeWords_28 (fun r_14 M_15 H locs hw_15 h => ?_)
            rw [h241M_9] at hw_15
            obtain ⟨ht1M_15, hresM_15⟩ := hw_15
            have er_14 := tSps_if hresM_15
            have h241M_15 : M_15.1 241 = M.1 241 := (ht1M_15.1.1 241 (by decide) (by decide)).trans h241M_9
            have htyM_15 : M_15.1 240 1 = nI ty := (ht1M_15.1.2.2.1 1 (by decide)).trans htyM_9
            have ht0M_15 : tJ M M_15 0 := tJ_trans ht0M_9 (tJ_weak ht1M_15)
            refine lv_if_ne (tgt := 36) hx hb dX5_takeWords_31 (by decide) (fun c_16 => ?_) (fun c_16 => ?_)
            · skip
              have c_16 : (fW (tS (M.1 241) ty) ((fW (tS (M.1 241) ty) (tWs (tS (M.1 241) ty) m t)).1 + 1)).1 ≠ (fW (tS (M.1 241) ty) (tWs (tS (M.1 241) ty) m t)).1 + 1 := uz_t er_14 c_16
              rw [if_pos c_16] at hresM_15
              obtain ⟨-, hspM_15, hplM_15, hqlM_15, hd1M_15, hd2M_15⟩ := hresM_15
              refine lv_iinc (v := nI (t + 1 + 1)) (lv' := [(1, .int (nI (t + 1 + 1))), (0, .ref (E.2.1 240))]) hx hb dX5_takeWords_36 hl (k := 0) rfl (nI_add (t + 1) 1) (by decide) rfl (fun ls hl => ?_)
              refine lv_goto (tgt := 11) hx hb dX5_takeWords_39 (by decide) ?_
              exact ih11  (t + 1) M_15 (by omega) (by omega) ht0M_15 hspM_15 hplM_15 hqlM_15 (fun i h => by rcases Nat.lt_or_ge i (t + 1) with zi | zi; (rw [(ht1M_15.2.2.2.2 i zi).1, (ht1M_15.2.2.2.2 i zi).2, eM_9, u_set_far (by decide), u_set_far (by decide)]; exact hdat i zi); (have zj : i = t + 1 := (by omega); subst zj; exact ⟨hd1M_15, hd2M_15⟩)) (by rw [hsps, fAfW_c (hgM_9) (by omega), show 5 - t = 5 - (t + 1) + 1 by omega, fWds_g c_16]; rfl) _ _ _ h (lv_sub hl [0, 1] rfl)
            · skip
              have c_16 : ¬ ((fW (tS (M.1 241) ty) ((fW (tS (M.1 241) ty) (tWs (tS (M.1 241) ty) m t)).1 + 1)).1 ≠ (fW (tS (M.1 241) ty) (tWs (tS (M.1 241) ty) m t)).1 + 1) := uz_f er_14 c_16
              rw [if_neg c_16] at hresM_15
              refine lv_iconst (v := 0) hx hb dX5_takeWords_34 (by decide) ?_
              exact ur_zret C h hr (by rfl) hlocks (⟨ht0M_15, by rw [show fWds (tS (M.1 241) ty) m 0 6 = (false, (fW (tS (M.1 241) ty) (tWs (tS (M.1 241) ty) m t)).1 + 1, t + 1) from hsps.trans ((fAfW_c hgM_9 (by omega)).trans (by rw [show 5 - t = 5 - (t + 1) + 1 by omega]; exact fWds_b c_16))]; unfold tWdsPost; rw [if_neg (fun z => Bool.false_ne_true z.1)]; exact ⟨rfl, hresM_15.2⟩⟩) dX5_takeWords_35
    exact lp11 _ 0 M_2 (Nat.lt_succ_self _) (by omega) ht0M_2 hspM_2 hplM_2 hqlM_2 (fun i h => by have zi : i = 0 := (by omega); subst zi; exact ⟨hd1M_2, hd2M_2⟩) (fWds_g (i := 0) (f := 5) c_3) _ _ _ h (lv_sub hl [0, 1] rfl)
  · skip
    have c_3 : ¬ ((fW (tS (M.1 241) ty) (m)).1 ≠ m) := uz_f er_1 c_3
    rw [if_neg c_3] at hresM_2
    refine lv_iconst (v := 0) hx hb dX5_takeWords_7 (by decide) ?_
    exact ur_zret C h hr (by rfl) hlocks (⟨ht0M_2, by rw [show fWds (tS (M.1 241) ty) m 0 6 = (false, m, 0) from fWds_b (i := 0) (f := 5) c_3]; unfold tWdsPost; rw [if_neg (fun z => Bool.false_ne_true z.1)]; exact ⟨rfl, hresM_2.2⟩⟩) dX5_takeWords_8
