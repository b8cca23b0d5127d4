set_option maxHeartbeats 1000000 in
set_option maxRecDepth 100000 in
theorem k_X5_takeWord (l : Launch) (E : uE) (hI : uI E) (S : uS) (M : uM) (ty : Nat) (hty : M.1 240 1 = nI ty) (hty90 : ty ≤ 90) (hch : ∀ i, i < ty → narrow .char (.int (M.1 241 i)) = .int (M.1 241 i)) (p : Nat) (hp : M.1 240 2 = nI p) (hpt : p ≤ ty) (m : Nat) (hpm : tSk (M.1 241) ty p = tQ (M.1 241) ty m) (hm0 : (tN (M.1 241) ty (m)) ≤ ty) (w : Nat) (hw0 : M.1 157 4 = nI w) (hw6 : w < 6) : Met l yX5_takeWord wsX5_takeWord ({ frames := 5, cells := 0, slots := 0, locals := 114 }) (va_Pc [.ref (E.2.1 240)] (uBt E S M)) (va_Qi (fun r u => tJ M u w ∧ if (fW (tS (M.1 241) ty) m).1 ≠ m then r = 1 ∧ u.1 157 4 = nI (w + 1) ∧ u.1 240 2 = nI (tQ (M.1 241) ty (fW (tS (M.1 241) ty) m).1) ∧ tN (M.1 241) ty (fW (tS (M.1 241) ty) m).1 ≤ ty ∧ u.1 161 w = nI (fW (tS (M.1 241) ty) m).2 ∧ u.1 166 w = 0 else r = 0 ∧ u.1 240 2 = nI (tQ (M.1 241) ty m)) (uP E) (uA E)) 0 0 (uA E) := by
  have hin5 : ∀ w ∈ wsX50, w ∈ wsX5_takeWord := by decide +kernel
  refine u_startT (cc := cX5_takeWord) (maxL := 4) (ret := (some .boolean)) hI (by decide) rfl (Nat.le_of_ble_eq_true rfl) ?_
  intro p_ e_ s_ m_ bl_ me_ c_ C hT hr hlocks h ls hl
  have hx := C.1.1
  have hb := C.1.2.1
  have hown : s_.vm.findClass RX5 = some m_.cls := C.1.2.2.2.1
  have hts := C.1.2.2.2.2
  have hl : lv_has ls 4 [(0, .ref (E.2.1 240))] := hl
  refine lv_iconst (v := 0) hx hb dX5_takeWord_0 (by decide) ?_
  refine lv_istore_n (lv' := [(1, .int 0), (0, .ref (E.2.1 240))]) hx hb dX5_takeWord_1 rfl hl (by decide) rfl (fun ls hl => ?_)
  refine lv_aload_n hx hb dX5_takeWord_2 rfl (lv_at hl 1 rfl) ?_
  refine va_ldcS hx hb hown hT.2.2.2.2.2.2.2 dX5_takeWord_3 ?_
  refine lv_iconst (v := 0) hx hb dX5_takeWord_5 (by decide) ?_
  refine ut_callVi C hT h (k := 240) (As := [.ref (S.1 5), .int 0]) (rest := []) (k_X5_take l E hI S M 5 (by decide) 0 ty hty hty90 hch p hp hpt) (cwV 2 hts gX5_takeWord_X5_take rfl rfl rfl (by decide +kernel) ⟨Nat.le_of_ble_eq_true rfl, Nat.le_of_ble_eq_true rfl⟩) (by decide) (uc_240 E _) (T := TX5) (N := 4) rfl rfl hl.1 rfl (Nat.le_of_ble_eq_true rfl) dX5_takeWord_6 (fun r_1 M_2 H locs hw_2 h => ?_)
  obtain ⟨eM_2, er_1⟩ := hw_2
  rw [tAt_of hpm, show tSk (M.1 241) ty p = (tQ (M.1 241) ty (m)) from hpm] at eM_2
  rw [tAt_of hpm] at er_1
  have h241M_2 : M_2.1 241 = M.1 241 := (show M_2.1 241 = M.1 241 from by rw [eM_2, u_set_far (by decide)]).trans (rfl : M.1 241 = M.1 241)
  have ht0M_2 : tJ M M_2 w := tJ_trans (tJ_refl M w) (show tJ M M_2 w from by rw [eM_2]; exact tJ_place _ _ _)
  have htyM_2 : M_2.1 240 1 = nI ty := by rw [eM_2, u_set1, if_pos rfl, if_neg (by decide)]; exact hty
  refine lv_istore_n (lv' := [(2, .int r_1), (1, .int 0), (0, .ref (E.2.1 240))]) hx hb dX5_takeWord_9 rfl hl (by decide) rfl (fun ls hl => ?_)
  refine lv_iconst (v := 0) hx hb dX5_takeWord_10 (by decide) ?_
  refine lv_istore_n (lv' := [(3, .int 0), (2, .int r_1), (1, .int 0), (0, .ref (E.2.1 240))]) hx hb dX5_takeWord_11 rfl hl (by decide) rfl (fun ls hl => ?_)
  have lp12 : ∀ (n12 : Nat) (i x lo zz : Nat) (r0 : Int32) (Mx : uM), 6 - i < n12 → (i ≤ 6) → (i ≤ lo) → (lo ≤ 6) → (zz < 2 ^ lo) → (zz = 0 ↔ x = m) → (m ≤ x) → (tJ M Mx w) → (Mx.1 157 4 = nI w) → (r0 = if nI lo ≤ tIx 5 (tS (M.1 241) ty (x)) then tIx 5 (tS (M.1 241) ty (x)) else -4) → (Mx.1 240 2 = nI (if nI lo ≤ tIx 5 (tS (M.1 241) ty (x)) then (tQ (M.1 241) ty (x)) + 1 else (tQ (M.1 241) ty (x)))) → ((tN (M.1 241) ty (x)) ≤ ty) → (fW (tS (M.1 241) ty) m = fWd (tS (M.1 241) ty) x lo zz (6 - i)) → ∀ (H : Heap) (locs : List Loc) (ls : Array Slot), uH E Mx s_ H locs → lv_has ls 4 [(3, .int (nI i)), (2, .int r0), (1, .int (nI zz)), (0, .ref (E.2.1 240))] → W p_ l e_ ({ frames := 5, cells := 0, slots := 0, locals := 114 }) s_ m_ (List.toArray [.ref (E.2.1 240)]) bl_ me_ c_ H locs 0 0 (MQ bl_ (va_Qi (fun r u => tJ M u w ∧ if (fW (tS (M.1 241) ty) m).1 ≠ m then r = 1 ∧ u.1 157 4 = nI (w + 1) ∧ u.1 240 2 = nI (tQ (M.1 241) ty (fW (tS (M.1 241) ty) m).1) ∧ tN (M.1 241) ty (fW (tS (M.1 241) ty) m).1 ≤ ty ∧ u.1 161 w = nI (fW (tS (M.1 241) ty) m).2 ∧ u.1 166 w = 0 else r = 0 ∧ u.1 240 2 = nI (tQ (M.1 241) ty m)) (uP E) (uA E)) (List.toArray [.ref (E.2.1 240)]) s_ 0 0 (uA E)) (F0 m_ 12 ls []) := by
    intro n12
    induction n12 with
    | zero => intro i x lo zz r0 Mx hms; exact absurd hms (Nat.not_lt_zero _)
    | succ n12 ih12 =>
      intro i x lo zz r0 Mx hms12 hi6 hil hlo hz hzi hmx htj hww er0 hpx hxt hfw H locs ls h hl
      refine lv_iload_n hx hb dX5_takeWord_12 rfl (lv_at hl 0 rfl) ?_
      refine lv_bipush (v := 6) hx hb dX5_takeWord_13 (by decide) ?_
      refine lv_icmp_ge (tgt := 44) hx hb dX5_takeWord_15 (by decide) (fun c_3 => ?_) (fun c_3 => ?_)
      · skip
        have c_3 : 6 ≤ i := (nI_leI (a := 6) (b := i) (by omega) (by omega)).mp c_3
        have hno : ¬ nI lo ≤ tIx 5 (tS (M.1 241) ty (x)) := fun q => by have h9 := tIx_s (k := 5) (by decide) (Int32.le_trans (t_ge1 (lo := lo) (by omega)) q); have h8 : tn (tIx 5 (tS (M.1 241) ty (x))) < 6 := h9.1; have h7 : lo ≤ tn (tIx 5 (tS (M.1 241) ty (x))) := (nI_le_iff (by omega) (by omega)).mp (by rw [← h9.2]; exact q); omega
        have hp1 : Mx.1 240 2 = nI (tQ (M.1 241) ty (x)) := by rw [hpx, if_neg hno]
        have hA : fW (tS (M.1 241) ty) m = (x, zz) := hfw.trans (fWd_b hno)
        have hz64 : zz < 64 := Nat.lt_of_lt_of_le hz (Nat.pow_le_pow_right (by decide) hlo : 2 ^ lo ≤ 2 ^ 6)
        refine lv_iload_n hx hb dX5_takeWord_44 rfl (lv_at hl 2 rfl) ?_
        refine lv_if_ne (tgt := 50) hx hb dX5_takeWord_45 (by decide) (fun c_4 => ?_) (fun c_4 => ?_)
        · skip
          have c_4 : ¬ zz = 0 := fun z => c_4 ((nI_eq (a := zz) (b := 0) (by omega) (by omega)).mpr z)
          refine lv_aload_n hx hb dX5_takeWord_50 rfl (lv_at hl 3 rfl) ?_
          refine ur_get C h 240 (by decide) (uc_240 E _) (Cn := RX5) (T := TX5) (N := 4) rfl hin5 3 (by decide) (by decide +kernel) rfl dX5_takeWord_51 ?_
          refine lv_iload_n hx hb dX5_takeWord_54 rfl (lv_at hl 2 rfl) ?_
          refine ur_callVi C h (k := 157) (As := [.int (nI zz)]) (rest := []) (k_X1_addWord_157 l E hI Mx (nI zz) w (hww) (by omega)) (cwV 1 hts gX5_takeWord_X1_addWord rfl rfl rfl (by decide +kernel) ⟨Nat.le_of_ble_eq_true rfl, Nat.le_of_ble_eq_true rfl⟩) (by decide) (uc_157 E _) (T := TX1) (N := 11) rfl rfl hl.1 rfl (Nat.le_of_ble_eq_true rfl) dX5_takeWord_55 (fun r_5 M_6 H locs hw_6 h => ?_)
          obtain ⟨eM_6, er_5⟩ := hw_6
          refine ur_eq (y := nI w) er_5 ?_
          refine lv_pop hx hb dX5_takeWord_58 rfl ?_
          refine lv_iconst (v := 1) hx hb dX5_takeWord_59 (by decide) ?_
          exact ur_zret C h hr (by rfl) hlocks (⟨tJ_trans htj (show tJ Mx M_6 w from by rw [eM_6]; exact tJ_add _ _ _), by rw [hA, if_pos (fun q => by have := hzi.mpr q; omega)]; exact ⟨rfl, by rw [eM_6]; rfl, by rw [eM_6]; exact hp1, hxt, by rw [eM_6]; exact xAddW_at _ _ _⟩⟩) dX5_takeWord_60
        · skip
          have c_4 : zz = 0 := (nI_eq (a := zz) (b := 0) (by omega) (by omega)).mp c_4
          refine lv_iconst (v := 0) hx hb dX5_takeWord_48 (by decide) ?_
          exact ur_zret C h hr (by rfl) hlocks (by have hxm := hzi.mp (by omega); subst hxm; exact ⟨htj, by rw [hA, if_neg (fun q => q rfl)]; exact ⟨rfl, hp1⟩⟩) dX5_takeWord_49
      · skip
        have c_3 : ¬ 6 ≤ i := fun z => c_3 ((nI_leI (a := 6) (b := i) (by omega) (by omega)).mpr z)
        refine lv_iload_n hx hb dX5_takeWord_18 rfl (lv_at hl 1 rfl) ?_
        refine lv_if_lt (tgt := 44) hx hb dX5_takeWord_19 (by decide) (fun c_7 => ?_) (fun c_7 => ?_)
        · skip
          have hno := t_nge er0 (t_ge1 (by omega)) (Int32.not_le.mpr c_7)
          have hp1 : Mx.1 240 2 = nI (tQ (M.1 241) ty (x)) := by rw [hpx, if_neg hno]
          have hA : fW (tS (M.1 241) ty) m = (x, zz) := hfw.trans (fWd_b hno)
          have hz64 : zz < 64 := Nat.lt_of_lt_of_le hz (Nat.pow_le_pow_right (by decide) hlo : 2 ^ lo ≤ 2 ^ 6)
          refine lv_iload_n hx hb dX5_takeWord_44 rfl (lv_at hl 2 rfl) ?_
          refine lv_if_ne (tgt := 50) hx hb dX5_takeWord_45 (by decide) (fun c_8 => ?_) (fun c_8 => ?_)
          · skip
            have c_8 : ¬ zz = 0 := fun z => c_8 ((nI_eq (a := zz) (b := 0) (by omega) (by omega)).mpr z)
            refine lv_aload_n hx hb dX5_takeWord_50 rfl (lv_at hl 3 rfl) ?_
            refine ur_get C h 240 (by decide) (uc_240 E _) (Cn := RX5) (T := TX5) (N := 4) rfl hin5 3 (by decide) (by decide +kernel) rfl dX5_takeWord_51 ?_
            refine lv_iload_n hx hb dX5_takeWord_54 rfl (lv_at hl 2 rfl) ?_
            refine ur_callVi C h (k := 157) (As := [.int (nI zz)]) (rest := []) (k_X1_addWord_157 l E hI Mx (nI zz) w (hww) (by omega)) (cwV 1 hts gX5_takeWord_X1_addWord rfl rfl rfl (by decide +kernel) ⟨Nat.le_of_ble_eq_true rfl, Nat.le_of_ble_eq_true rfl⟩) (by decide) (uc_157 E _) (T := TX1) (N := 11) rfl rfl hl.1 rfl (Nat.le_of_ble_eq_true rfl) dX5_takeWord_55 (fun r_9 M_10 H locs hw_10 h => ?_)
            obtain ⟨eM_10, er_9⟩ := hw_10
            refine ur_eq (y := nI w) er_9 ?_
            refine lv_pop hx hb dX5_takeWord_58 rfl ?_
            refine lv_iconst (v := 1) hx hb dX5_takeWord_59 (by decide) ?_
            exact ur_zret C h hr (by rfl) hlocks (⟨tJ_trans htj (show tJ Mx M_10 w from by rw [eM_10]; exact tJ_add _ _ _), by rw [hA, if_pos (fun q => by have := hzi.mpr q; omega)]; exact ⟨rfl, by rw [eM_10]; rfl, by rw [eM_10]; exact hp1, hxt, by rw [eM_10]; exact xAddW_at _ _ _⟩⟩) dX5_takeWord_60
          · skip
            have c_8 : zz = 0 := (nI_eq (a := zz) (b := 0) (by omega) (by omega)).mp c_8
            refine lv_iconst (v := 0) hx hb dX5_takeWord_48 (by decide) ?_
            exact ur_zret C h hr (by rfl) hlocks (by have hxm := hzi.mp (by omega); subst hxm; exact ⟨htj, by rw [hA, if_neg (fun q => q rfl)]; exact ⟨rfl, hp1⟩⟩) dX5_takeWord_49
        · skip
          have c_7 := Int32.not_lt.mp c_7
          obtain ⟨hg, hr0⟩ := t_ge er0 (t_ge1 (by omega)) c_7
          obtain ⟨hs6, hsI⟩ := tIx_s (k := 5) (by decide) (Int32.le_trans (t_ge1 (lo := lo) (by omega)) hg)
          have hs6 : tn (tIx 5 (tS (M.1 241) ty (x))) < 6 := hs6
          have hls : lo ≤ tn (tIx 5 (tS (M.1 241) ty (x))) := (nI_le_iff (by omega) (by omega)).mp (by rw [← hsI]; exact hg)
          have hrz := t_rise hls hz hs6
          have hrI : r0 = nI (tn (tIx 5 (tS (M.1 241) ty (x)))) := hr0.trans hsI
          have hq1 : (tN (M.1 241) ty (x + 1)) ≤ ty := t_lt (k := 5) (by decide) (t_ge1 (lo := lo) (by omega)) hg
          have hp1 : Mx.1 240 2 = nI (tN (M.1 241) ty (x + 1)) := by rw [hpx, if_pos hg]; rfl
          refine lv_iload_n hx hb dX5_takeWord_22 rfl (lv_at hl 2 rfl) ?_
          refine lv_iconst (v := 1) hx hb dX5_takeWord_23 (by decide) ?_
          refine lv_iload_n hx hb dX5_takeWord_24 rfl (lv_at hl 1 rfl) ?_
          refine ur_eq (y := nI (tn (tIx 5 (tS (M.1 241) ty (x))))) hrI ?_
          refine lv_ishl hx hb dX5_takeWord_25 ?_
          refine lv_ior hx hb dX5_takeWord_26 ?_
          refine ur_eq (y := nI (zz + 2 ^ tn (tIx 5 (tS (M.1 241) ty (x))))) hrz.1 ?_
          refine lv_istore_n (lv' := [(1, .int (nI (zz + 2 ^ tn (tIx 5 (tS (M.1 241) ty (x)))))), (3, .int (nI i)), (2, .int r0), (0, .ref (E.2.1 240))]) hx hb dX5_takeWord_27 rfl hl (by decide) rfl (fun ls hl => ?_)
          refine lv_aload_n hx hb dX5_takeWord_28 rfl (lv_at hl 3 rfl) ?_
          refine va_ldcS hx hb hown hT.2.2.2.2.2.2.2 dX5_takeWord_29 ?_
          refine lv_iload_n hx hb dX5_takeWord_31 rfl (lv_at hl 2 rfl) ?_
          refine ur_eq (y := nI (tn (tIx 5 (tS (M.1 241) ty (x))))) hrI ?_
          refine lv_iconst (v := 1) hx hb dX5_takeWord_32 (by decide) ?_
          refine lv_iadd hx hb dX5_takeWord_33 ?_
          refine ur_eq (y := nI (tn (tIx 5 (tS (M.1 241) ty (x))) + 1)) (nI_add (tn (tIx 5 (tS (M.1 241) ty (x)))) 1) ?_
          refine ut_callVi C hT h (k := 240) (As := [.ref (S.1 5), .int (nI (tn (tIx 5 (tS (M.1 241) ty (x))) + 1))]) (rest := []) (k_X5_take l E hI S Mx 5 (by decide) (nI (tn (tIx 5 (tS (M.1 241) ty (x))) + 1)) ty ((htj.1.2.2.1 1 (by decide)).trans hty) hty90 (by rw [(htj.1.1 241 (by decide) (by decide))]; exact hch) (tN (M.1 241) ty (x + 1)) hp1 hq1) (cwV 2 hts gX5_takeWord_X5_take rfl rfl rfl (by decide +kernel) ⟨Nat.le_of_ble_eq_true rfl, Nat.le_of_ble_eq_true rfl⟩) (by decide) (uc_240 E _) (T := TX5) (N := 4) rfl rfl hl.1 rfl (Nat.le_of_ble_eq_true rfl) dX5_takeWord_34 (fun r_11 M_12 H locs hw_12 h => ?_)
          obtain ⟨eM_12, er_11⟩ := hw_12
          rw [(htj.1.1 241 (by decide) (by decide))] at eM_12 er_11
          rw [tAt_of rfl, show tSk (M.1 241) ty (tN (M.1 241) ty (x + 1)) = (tQ (M.1 241) ty (x + 1)) from rfl] at eM_12
          rw [tAt_of rfl] at er_11
          have h241M_12 : M_12.1 241 = M.1 241 := (show M_12.1 241 = Mx.1 241 from by rw [eM_12, u_set_far (by decide)]).trans (htj.1.1 241 (by decide) (by decide))
          have ht0M_12 : tJ M M_12 w := tJ_trans htj (show tJ Mx M_12 w from by rw [eM_12]; exact tJ_place _ _ _)
          have htyM_12 : M_12.1 240 1 = nI ty := by rw [eM_12, u_set1, if_pos rfl, if_neg (by decide)]; exact ((htj.1.2.2.1 1 (by decide)).trans hty)
          refine lv_istore_n (lv' := [(2, .int r_11), (1, .int (nI (zz + 2 ^ tn (tIx 5 (tS (M.1 241) ty (x)))))), (3, .int (nI i)), (0, .ref (E.2.1 240))]) hx hb dX5_takeWord_37 rfl hl (by decide) rfl (fun ls hl => ?_)
          refine lv_iinc (v := nI (i + 1)) (lv' := [(3, .int (nI (i + 1))), (2, .int r_11), (1, .int (nI (zz + 2 ^ tn (tIx 5 (tS (M.1 241) ty (x)))))), (0, .ref (E.2.1 240))]) hx hb dX5_takeWord_38 hl (k := 2) rfl (nI_add i 1) (by decide) rfl (fun ls hl => ?_)
          refine lv_goto (tgt := 12) hx hb dX5_takeWord_41 (by decide) ?_
          exact ih12  (i + 1) (x + 1) (tn (tIx 5 (tS (M.1 241) ty (x))) + 1) (zz + 2 ^ tn (tIx 5 (tS (M.1 241) ty (x)))) r_11 M_12 (by omega) (by omega) (by omega) (by omega) hrz.2 ⟨fun q => absurd q (by have := Nat.two_pow_pos (tn (tIx 5 (tS (M.1 241) ty (x)))); omega), fun q => absurd q (by omega)⟩ (by omega) ht0M_12 (by rw [eM_12, u_set_far (by decide)]; exact hww) er_11 (by rw [eM_12]; rfl) hq1 (by rw [hfw, show 6 - i = 6 - (i + 1) + 1 by omega, fWd_g hg]) _ _ _ h (lv_sub hl [0, 1, 2, 3] rfl)
  exact lp12 _ 0 m 0 0 r_1 M_2 (Nat.lt_succ_self _) (by omega) (by omega) (by omega) (by decide) ⟨fun _ => rfl, fun _ => rfl⟩ (Nat.le_refl _) ht0M_2 (by rw [eM_2, u_set_far (by decide)]; exact hw0) er_1 (by rw [eM_2]; rfl) hm0 rfl _ _ _ h (lv_sub hl [0, 1, 2, 3] rfl)
