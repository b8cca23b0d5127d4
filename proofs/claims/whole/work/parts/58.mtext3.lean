set_option maxHeartbeats 1000000 in
set_option maxRecDepth 100000 in
theorem k_X7_readWordsOf (l : Launch) (E : uE) (hI : uI E) (M : uM) (ty : Nat) (hty : M.1 251 2 = nI ty) (hty90 : ty ≤ 90) (p : Nat) (hp : M.1 251 3 = nI p) (hpt : p ≤ ty) (m : Nat) (hpm : tSk (M.1 253) ty p = tQ (M.1 253) ty m) (hf : M.1 251 4 = 0) (hlet : mLet (M.1 253) ty) (hNm : (tN (M.1 253) ty (m)) ≤ ty) : Met l yX7_readWordsOf wsX7_readWordsOf ({ frames := 1, cells := 0, slots := 0, locals := 25 }) (va_Pc [.ref (E.2.1 251)] (uB E M)) (va_Qi (fun r u => mFr M u ∧ u.1 254 = M.1 254 ∧ mWdsPost (tS (M.1 253) ty) (M.1 253) ty u r m (fWds (tS (M.1 253) ty) m 0 6)) (uP E) (uA E)) 0 0 (uA E) := by
  have hin7 : ∀ w ∈ wsX70, w ∈ wsX7_readWordsOf := by decide +kernel
  refine u_start (cc := cX7_readWordsOf) (maxL := 4) (ret := (some .int)) hI (by decide) rfl (Nat.le_of_ble_eq_true rfl) ?_
  intro p_ e_ s_ m_ bl_ me_ c_ C hr hlocks h ls hl
  have hx := C.1.1
  have hb := C.1.2.1
  have hown : s_.vm.findClass RX7 = some m_.cls := C.1.2.2.2.1
  have hts := C.1.2.2.2.2
  have hl : lv_has ls 4 [(0, .ref (E.2.1 251))] := hl
  refine lv_iconst (v := 0) hx hb dX7_readWordsOf_0 (by decide) ?_
  refine lv_istore_n (lv' := [(1, .int 0), (0, .ref (E.2.1 251))]) hx hb dX7_readWordsOf_1 rfl hl (by decide) rfl (fun ls hl => ?_)
  refine lv_aload_n hx hb dX7_readWordsOf_2 rfl (lv_at hl 1 rfl) ?_
  refine ur_get C h 251 (by decide) (uc_251 E _) (Cn := RX7) (T := TX7) (N := 17) rfl hin7 4 (by decide) (by decide +kernel) rfl dX7_readWordsOf_3 ?_
  refine ur_eq (y := 0) hf ?_
  refine lv_if_ne (tgt := 157) hx hb dX7_readWordsOf_6 (by decide) (fun z => absurd z (by decide)) (fun c_1 => ?_)
  refine lv_iload_n hx hb dX7_readWordsOf_9 rfl (lv_at hl 0 rfl) ?_
  refine lv_if_eq (tgt := 22) hx hb dX7_readWordsOf_10 (by decide) (fun c_2 => ?_) (fun z => absurd z (by decide))
  have lp22 : ∀ (n22 : Nat) (i pl : Nat) (Mi : uM), 7 - i < n22 → (i ≤ 6) → (mFr M Mi ∧ Mi.1 254 = M.1 254) → (Mi.1 251 4 = 0) → (Mi.1 251 3 = nI pl) → (pl ≤ ty) → ((i = 0 ∧ tSk (M.1 253) ty pl = (tQ (M.1 253) ty (m))) ∨ (0 < i ∧ 0 < tWs (tS (M.1 253) ty) m i ∧ pl = (tQ (M.1 253) ty (tWs (tS (M.1 253) ty) m i - 1)))) → ((tN (M.1 253) ty (tWs (tS (M.1 253) ty) m i)) ≤ ty) → (∀ t, t < i → Mi.1 255 t = nI (fW (tS (M.1 253) ty) (tWs (tS (M.1 253) ty) m t)).2) → (fWds (tS (M.1 253) ty) m 0 6 = if i < 6 then fWds (tS (M.1 253) ty) (tWs (tS (M.1 253) ty) m i) i (6 - i) else (false, tWs (tS (M.1 253) ty) m i - 1, i)) → ∀ (H : Heap) (locs : List Loc) (ls : Array Slot), uH E Mi s_ H locs → lv_has ls 4 [(1, .int (nI i)), (0, .ref (E.2.1 251))] → W p_ l e_ ({ frames := 1, cells := 0, slots := 0, locals := 25 }) s_ m_ (List.toArray [.ref (E.2.1 251)]) bl_ me_ c_ H locs 0 0 (MQ bl_ (va_Qi (fun r u => mFr M u ∧ u.1 254 = M.1 254 ∧ mWdsPost (tS (M.1 253) ty) (M.1 253) ty u r m (fWds (tS (M.1 253) ty) m 0 6)) (uP E) (uA E)) (List.toArray [.ref (E.2.1 251)]) s_ 0 0 (uA E)) (F0 m_ 22 ls []) := by
    intro n22
    induction n22 with
    | zero => intro i pl Mi hms; exact absurd hms (Nat.not_lt_zero _)
    | succ n22 ih22 =>
      intro i pl Mi hms22 hi hK0 hfi hpi hplt hc hNi hdat hA H locs ls h hl
      refine lv_iload_n hx hb dX7_readWordsOf_22 rfl (lv_at hl 0 rfl) ?_
      refine lv_if_le (tgt := 41) hx hb dX7_readWordsOf_23 (by decide) (fun c_3 => ?_) (fun c_3 => ?_)
      · skip
        have c_3 : i ≤ 0 := (nI_leI (a := i) (b := 0) (by omega) (by omega)).mp c_3
        have hpx : tSk (M.1 253) ty pl = (tQ (M.1 253) ty (tWs (tS (M.1 253) ty) m i)) := by rcases hc with hc | hc; (rw [hc.1]; exact hc.2); omega
        have hi5 : i < 6 := by omega
        have hA1 : fWds (tS (M.1 253) ty) m 0 6 = fWds (tS (M.1 253) ty) (tWs (tS (M.1 253) ty) m i) i (6 - i) := by rw [hA, if_pos hi5]
        refine lv_iconst (v := 0) hx hb dX7_readWordsOf_41 (by decide) ?_
        refine lv_istore_n (lv' := [(2, .int 0), (1, .int (nI i)), (0, .ref (E.2.1 251))]) hx hb dX7_readWordsOf_42 rfl hl (by decide) rfl (fun ls hl => ?_)
        refine lv_aload_n hx hb dX7_readWordsOf_43 rfl (lv_at hl 2 rfl) ?_
        refine ur_get C h 251 (by decide) (uc_251 E _) (Cn := RX7) (T := TX7) (N := 17) rfl hin7 4 (by decide) (by decide +kernel) rfl dX7_readWordsOf_44 ?_
        refine ur_eq (y := 0) hfi ?_
        refine lv_if_eq (tgt := 54) hx hb dX7_readWordsOf_47 (by decide) (fun c_4 => ?_) (fun z => absurd z (by decide))
        refine lv_aload_n hx hb dX7_readWordsOf_54 rfl (lv_at hl 2 rfl) ?_
        refine ur_callVi C h (k := 251) (As := []) (rest := []) (k_X7_here l E hI Mi ty ((hK0.1.2.1 2 (by decide) (by decide)).trans hty) hty90 pl hpi hplt) (cwV 0 hts gX7_readWordsOf_X7_here rfl rfl rfl (by decide +kernel) ⟨Nat.le_of_ble_eq_true rfl, Nat.le_of_ble_eq_true rfl⟩) (by decide) (uc_251 E _) (T := TX7) (N := 17) rfl rfl hl.1 rfl (Nat.le_of_ble_eq_true rfl) dX7_readWordsOf_55 (fun r_5 M_6 H locs hw_6 h => ?_)
        obtain ⟨eM_6, er_5⟩ := hw_6
        rw [(hK0.1.1 253 (by decide) (by decide) (by decide))] at eM_6 er_5
        rw [tAt_of hpx] at er_5
        rw [show tSk (M.1 253) ty pl = (tQ (M.1 253) ty (tWs (tS (M.1 253) ty) m i)) from hpx] at eM_6
        have hfM_6 : M_6.1 251 4 = 0 := by rw [eM_6, u_set1, if_pos rfl, if_neg (by decide)]; exact hfi
        have hpM_6 : M_6.1 251 3 = nI (tQ (M.1 253) ty (tWs (tS (M.1 253) ty) m i)) := by rw [eM_6]; rfl
        have h253M_6 : M_6.1 253 = M.1 253 := (show M_6.1 253 = Mi.1 253 from by rw [eM_6, u_set_far (by decide)]).trans (hK0.1.1 253 (by decide) (by decide) (by decide))
        have htyM_6 : M_6.1 251 2 = nI ty := by rw [eM_6, u_set1, if_pos rfl, if_neg (by decide)]; exact ((hK0.1.2.1 2 (by decide) (by decide)).trans hty)
        have hkM_6 : mJ Mi M_6 i := by rw [eM_6]; exact mJ_f (by decide)
        have hKM_6 : mJ Mi M_6 i := mJ_trans (mJ_refl Mi i) hkM_6
        refine ur_eq (y := (tS (M.1 253) ty (tWs (tS (M.1 253) ty) m i))) er_5 ?_
        refine lv_istore_n (lv' := [(3, .int (tS (M.1 253) ty (tWs (tS (M.1 253) ty) m i))), (2, .int 0), (1, .int (nI i)), (0, .ref (E.2.1 251))]) hx hb dX7_readWordsOf_58 rfl hl (by decide) rfl (fun ls hl => ?_)
        have lp59 : ∀ (n59 : Nat) (kk x lo zz : Nat) (Mx : uM), 6 - kk < n59 → (kk ≤ lo) → (lo ≤ 6) → (lo = 0 → zz = 0) → (0 < lo → 2 ^ (lo - 1) ≤ zz) → (zz < 2 ^ lo) → (zz = 0 ↔ x = tWs (tS (M.1 253) ty) m i) → (tWs (tS (M.1 253) ty) m i ≤ x) → (mJ Mi Mx i) → (Mx.1 251 4 = 0) → (Mx.1 251 3 = nI (tQ (M.1 253) ty (x))) → ((tN (M.1 253) ty (x)) ≤ ty) → (fW (tS (M.1 253) ty) (tWs (tS (M.1 253) ty) m i) = fWd (tS (M.1 253) ty) x lo zz (6 - kk)) → ∀ (H : Heap) (locs : List Loc) (ls : Array Slot), uH E Mx s_ H locs → lv_has ls 4 [(3, .int (tS (M.1 253) ty (x))), (2, .int (nI zz)), (1, .int (nI i)), (0, .ref (E.2.1 251))] → W p_ l e_ ({ frames := 1, cells := 0, slots := 0, locals := 25 }) s_ m_ (List.toArray [.ref (E.2.1 251)]) bl_ me_ c_ H locs 0 0 (MQ bl_ (va_Qi (fun r u => mFr M u ∧ u.1 254 = M.1 254 ∧ mWdsPost (tS (M.1 253) ty) (M.1 253) ty u r m (fWds (tS (M.1 253) ty) m 0 6)) (uP E) (uA E)) (List.toArray [.ref (E.2.1 251)]) s_ 0 0 (uA E)) (F0 m_ 59 ls []) := by
          intro n59
          induction n59 with
          | zero => intro kk x lo zz Mx hms; exact absurd hms (Nat.not_lt_zero _)
          | succ n59 ih59 =>
            intro kk x lo zz Mx hms59 hkl hlo6 hz0 hz1 hz2 hzx hYx hKx hfx hpx2 hNx hfw H locs ls h hl
            obtain ⟨bb, hbb, ebb⟩ := mS hlet x
            have hbi : ((tS (M.1 253) ty (x))).toInt = bb := by rw [ebb, nI_toInt (by omega)]
            refine lv_aload_n hx hb dX7_readWordsOf_59 rfl (lv_at hl 3 rfl) ?_
            refine ur_get C h 251 (by decide) (uc_251 E _) (Cn := RX7) (T := TX7) (N := 17) rfl hin7 4 (by decide) (by decide +kernel) rfl dX7_readWordsOf_60 ?_
            refine ur_eq (y := 0) hfx ?_
            refine lv_if_ne (tgt := 117) hx hb dX7_readWordsOf_63 (by decide) (fun z => absurd z (by decide)) (fun c_7 => ?_)
            refine lv_iload_n hx hb dX7_readWordsOf_66 rfl (lv_at hl 0 rfl) ?_
            refine lv_i2l (v := (tS (M.1 253) ty (x)).toInt64) hx hb dX7_readWordsOf_67 rfl ?_
            refine lv_ldc2 (v := 97) hx hb hown (hts (.constantLong RX7 131 97) (by decide +kernel)) dX7_readWordsOf_68 ?_
            refine lv_ldc2 (v := 102) hx hb hown (hts (.constantLong RX7 133 102) (by decide +kernel)) dX7_readWordsOf_71 ?_
            refine ur_callSi C h (As := [.long ((tS (M.1 253) ty (x)).toInt64), .long 97, .long 102]) (rest := []) (k_X7_in l E hI Mx ((tS (M.1 253) ty (x)).toInt64) 97 102) (va_cwS 3 hts gX7_readWordsOf_X7_in rfl rfl rfl (by decide +kernel) ⟨Nat.le_of_ble_eq_true rfl, Nat.le_of_ble_eq_true rfl⟩) rfl hl.1 rfl (Nat.le_of_ble_eq_true rfl) dX7_readWordsOf_74 (fun r_8 M_9 H locs hw_9 h => ?_)
            obtain ⟨hu, er_8⟩ := hw_9
            subst hu
            have er_8 : r_8 = if 97 ≤ (tS (M.1 253) ty (x)).toInt ∧ (tS (M.1 253) ty (x)).toInt ≤ 102 then 1 else 0 := u_in (x := (tS (M.1 253) ty (x)).toInt) (u_w _) rfl rfl er_8
            refine lv_if_eq (tgt := 117) hx hb dX7_readWordsOf_77 (by decide) (fun c_10 => ?_) (fun c_10 => ?_)
            · skip
              have c_10 : ¬ (97 ≤ (tS (M.1 253) ty (x)).toInt ∧ (tS (M.1 253) ty (x)).toInt ≤ 102) := uz_f er_8 c_10
              have hno : ¬ nI lo ≤ tIx 5 (tS (M.1 253) ty (x)) := by rw [ebb]; exact m_nofit hbb (fun q => c_10 (by rw [hbi]; omega)) hlo6
              have hW : fW (tS (M.1 253) ty) (tWs (tS (M.1 253) ty) m i) = (x, zz) := hfw.trans (fWd_b hno)
              have hz64 : zz < 64 := Nat.lt_of_lt_of_le hz2 (Nat.pow_le_pow_right (by decide) hlo6 : 2 ^ lo ≤ 2 ^ 6)
              refine lv_aload_n hx hb dX7_readWordsOf_117 rfl (lv_at hl 3 rfl) ?_
              refine lv_aload_n hx hb dX7_readWordsOf_118 rfl (lv_at hl 3 rfl) ?_
              refine ur_get C h 251 (by decide) (uc_251 E _) (Cn := RX7) (T := TX7) (N := 17) rfl hin7 4 (by decide) (by decide +kernel) rfl dX7_readWordsOf_119 ?_
              refine ur_eq (y := 0) hfx ?_
              refine lv_if_ne (tgt := 129) hx hb dX7_readWordsOf_122 (by decide) (fun z => absurd z (by decide)) (fun c_11 => ?_)
              refine lv_iload_n hx hb dX7_readWordsOf_125 rfl (lv_at hl 1 rfl) ?_
              refine lv_if_ne (tgt := 133) hx hb dX7_readWordsOf_126 (by decide) (fun c_12 => ?_) (fun c_12 => ?_)
              · skip
                have c_12 : ¬ zz = 0 := fun z => c_12 ((nI_eq (a := zz) (b := 0) (by omega) (by omega)).mpr z)
                refine lv_iconst (v := 0) hx hb dX7_readWordsOf_133 (by decide) ?_
                refine ur_puti C h 251 (by decide) (uc_251 E _) (Cn := RX7) (T := TX7) (N := 17) rfl hin7 tyX7 tyX7_ok nmX7 4 (by decide) (by decide +kernel) rfl (by rfl) rfl (Nat.le_of_ble_eq_true rfl) (us_251_4 E _ _) dX7_readWordsOf_134 (fun M_13 H locs eM_13 h => ?_)
                have hfM_13 : M_13.1 251 4 = 0 := by rw [eM_13]; rfl
                have hpM_13 : M_13.1 251 3 = nI (tQ (M.1 253) ty (x)) := by rw [eM_13, u_set1, if_pos rfl, if_neg (by decide)]; exact hpx2
                have hKM_13 : mJ Mi M_13 i := mJ_trans hKx (show mJ Mx M_13 i from by rw [eM_13]; exact mJ_f (Or.inr rfl))
                have h253M_13 : M_13.1 253 = M.1 253 := (show M_13.1 253 = Mx.1 253 from by rw [eM_13]; rfl).trans (hKx.1.1 253 (by decide) (by decide) (by decide) |>.trans (hK0.1.1 253 (by decide) (by decide) (by decide)))
                have htyM_13 : M_13.1 251 2 = nI ty := by rw [eM_13]; exact ((hKx.1.2.1 2 (by decide) (by decide)).trans ((hK0.1.2.1 2 (by decide) (by decide)).trans hty))
                have hWn : (fW (tS (M.1 253) ty) (tWs (tS (M.1 253) ty) m i)).1 ≠ tWs (tS (M.1 253) ty) m i := by rw [hW]; exact fun q => by have := hzx.mpr q; omega
                have hA2 : fWds (tS (M.1 253) ty) m 0 6 = fAfW (tS (M.1 253) ty) x (i + 1) (5 - i) := by rw [hA1, show 6 - i = 5 - i + 1 by omega, fWds_g hWn, hW]
                have hYs : tWs (tS (M.1 253) ty) m (i + 1) = x + 1 := by show (fW (tS (M.1 253) ty) (tWs (tS (M.1 253) ty) m i)).1 + 1 = x + 1; rw [hW]
                refine lv_aload_n hx hb dX7_readWordsOf_137 rfl (lv_at hl 3 rfl) ?_
                refine ur_get C h 251 (by decide) (uc_251 E _) (Cn := RX7) (T := TX7) (N := 17) rfl hin7 4 (by decide) (by decide +kernel) rfl dX7_readWordsOf_138 ?_
                refine ur_eq (y := nI 0) (by rw [eM_13, u_set1, if_pos rfl, if_pos rfl]; try rfl) ?_
                refine ur_eq (y := 0) rfl ?_
                refine lv_if_ne (tgt := 151) hx hb dX7_readWordsOf_141 (by decide) (fun z => absurd z (by decide)) (fun c_14 => ?_)
                refine lv_aload_n hx hb dX7_readWordsOf_144 rfl (lv_at hl 3 rfl) ?_
                refine ur_get C h 251 (by decide) (uc_251 E _) (Cn := RX7) (T := TX7) (N := 17) rfl hin7 6 (by decide) (by decide +kernel) rfl dX7_readWordsOf_145 ?_
                refine lv_iload_n hx hb dX7_readWordsOf_148 rfl (lv_at hl 2 rfl) ?_
                refine lv_iload_n hx hb dX7_readWordsOf_149 rfl (lv_at hl 1 rfl) ?_
                refine ur_iast C h 255 (by decide) (uc_255 E) (i) (by omega) (by decide) dX7_readWordsOf_150 (fun M_15 H locs eM_15 h => ?_)
                have hfM_15 : M_15.1 251 4 = 0 := by rw [eM_15, u_set_far (by decide)]; exact hfM_13
                have hppM_15 : M_15.1 251 3 = nI (tQ (M.1 253) ty (x)) := by rw [eM_15, u_set_far (by decide)]; exact hpM_13
                have hKM_15 : mJ Mi M_15 i := mJ_trans hKM_13 (show mJ M_13 M_15 i from by rw [eM_15]; exact mJ_r (Nat.le_refl _))
                have h253M_15 : M_15.1 253 = M.1 253 := (show M_15.1 253 = M_13.1 253 from by rw [eM_15]; rfl).trans h253M_13
                have htyM_15 : M_15.1 251 2 = nI ty := by rw [eM_15]; exact htyM_13
                have hdN : ∀ t, t < i + 1 → M_15.1 255 t = nI (fW (tS (M.1 253) ty) (tWs (tS (M.1 253) ty) m t)).2 := fun t ht => by rcases Nat.lt_or_ge t i with zt | zt; (rw [hKM_15.2.2 t zt]; exact hdat t zt); (rw [show t = i by omega, eM_15, u_set1, if_pos rfl, if_pos rfl, hW])
                refine lv_iinc (v := nI (i + 1)) (lv' := [(1, .int (nI (i + 1))), (3, .int (tS (M.1 253) ty (x))), (2, .int (nI zz)), (0, .ref (E.2.1 251))]) hx hb dX7_readWordsOf_151 hl (k := 2) rfl (nI_add i 1) (by decide) rfl (fun ls hl => ?_)
                refine lv_goto (tgt := 2) hx hb dX7_readWordsOf_154 (by decide) ?_
                refine lv_aload_n hx hb dX7_readWordsOf_2 rfl (lv_at hl 3 rfl) ?_
                refine ur_get C h 251 (by decide) (uc_251 E _) (Cn := RX7) (T := TX7) (N := 17) rfl hin7 4 (by decide) (by decide +kernel) rfl dX7_readWordsOf_3 ?_
                refine ur_eq (y := nI 0) (by rw [eM_15, u_set1, if_neg (by decide), eM_13, u_set1, if_pos rfl, if_pos rfl]; try rfl) ?_
                refine ur_eq (y := 0) rfl ?_
                refine lv_if_ne (tgt := 157) hx hb dX7_readWordsOf_6 (by decide) (fun z => absurd z (by decide)) (fun c_16 => ?_)
                refine lv_iload_n hx hb dX7_readWordsOf_9 rfl (lv_at hl 0 rfl) ?_
                refine lv_if_eq (tgt := 22) hx hb dX7_readWordsOf_10 (by decide) (fun c_17 => ?_) (fun c_17 => ?_)
                · skip
                  have c_17 : (i + 1) = 0 := (nI_eq (a := (i + 1)) (b := 0) (by omega) (by omega)).mp c_17
                  exact ih22  (i + 1) 0 M_15 (by omega) (absurd c_17 (by omega)) (absurd c_17 (by omega)) (absurd c_17 (by omega)) (absurd c_17 (by omega)) (absurd c_17 (by omega)) (absurd c_17 (by omega)) (absurd c_17 (by omega)) (absurd c_17 (by omega)) (absurd c_17 (by omega)) _ _ _ h (lv_sub hl [0, 3] rfl)
                · skip
                  have c_17 : ¬ (i + 1) = 0 := fun z => c_17 ((nI_eq (a := (i + 1)) (b := 0) (by omega) (by omega)).mpr z)
                  refine lv_aload_n hx hb dX7_readWordsOf_13 rfl (lv_at hl 3 rfl) ?_
                  refine ur_callVi C h (k := 251) (As := []) (rest := []) (k_X7_here l E hI M_15 ty htyM_15 hty90 (tQ (M.1 253) ty (x)) hppM_15 (tQ_le hNx)) (cwV 0 hts gX7_readWordsOf_X7_here rfl rfl rfl (by decide +kernel) ⟨Nat.le_of_ble_eq_true rfl, Nat.le_of_ble_eq_true rfl⟩) (by decide) (uc_251 E _) (T := TX7) (N := 17) rfl rfl hl.1 rfl (Nat.le_of_ble_eq_true rfl) dX7_readWordsOf_14 (fun r_18 M_19 H locs hw_19 h => ?_)
                  obtain ⟨eM_19, er_18⟩ := hw_19
                  rw [h253M_15] at eM_19 er_18
                  rw [tAt_of tQ_sk] at er_18
                  rw [show tSk (M.1 253) ty (tQ (M.1 253) ty (x)) = (tQ (M.1 253) ty (x)) from tQ_sk] at eM_19
                  have hfM_19 : M_19.1 251 4 = 0 := by rw [eM_19, u_set1, if_pos rfl, if_neg (by decide)]; exact hfM_15
                  have hpM_19 : M_19.1 251 3 = nI (tQ (M.1 253) ty (x)) := by rw [eM_19]; rfl
                  have h253M_19 : M_19.1 253 = M.1 253 := (show M_19.1 253 = M_15.1 253 from by rw [eM_19, u_set_far (by decide)]).trans h253M_15
                  have htyM_19 : M_19.1 251 2 = nI ty := by rw [eM_19, u_set1, if_pos rfl, if_neg (by decide)]; exact htyM_15
                  have hkM_19 : mJ M_15 M_19 i := by rw [eM_19]; exact mJ_f (by decide)
                  have hKM_19 : mJ Mi M_19 i := mJ_trans hKM_15 hkM_19
                  refine ur_eq (y := (tS (M.1 253) ty (x))) er_18 ?_
                  refine lv_bipush (v := 44) hx hb dX7_readWordsOf_17 (by decide) ?_
                  refine lv_icmp_ne (tgt := 157) hx hb dX7_readWordsOf_19 (by decide) (fun c_20 => ?_) (fun c_20 => ?_)
                  · skip
                    have hgn : ¬ 0 ≤ tIx 2 (tS (M.1 253) ty (x)) := fun zq => c_20 ((mS_sep hlet x).1.mp zq)
                    refine lv_iload_n hx hb dX7_readWordsOf_157 rfl (lv_at hl 0 rfl) ?_
                    exact ur_iret C h hr hlocks (⟨mFr_trans hK0.1 hKM_19.1, hKM_19.2.1.trans hK0.2, by unfold mWdsPost; rw [hA2, fAfW_n hgn, if_pos rfl]; exact ⟨hfM_19, hpM_19, hNx, rfl, fun t ht => by rw [eM_19, u_set_far (by decide)]; exact hdN t ht⟩⟩) dX7_readWordsOf_158
                  · skip
                    have hgc : 0 ≤ tIx 2 (tS (M.1 253) ty (x)) := (mS_sep hlet x).1.mpr c_20
                    exact ih22  (i + 1) (tQ (M.1 253) ty (x)) M_19 (by omega) (by omega) ⟨mFr_trans hK0.1 hKM_19.1, hKM_19.2.1.trans hK0.2⟩ hfM_19 hpM_19 (tQ_le hNx) (Or.inr ⟨by omega, by rw [hYs]; omega, by rw [hYs]; rfl⟩) (by rw [hYs]; exact t_lt (k := 2) (by decide) (by decide) hgc) (fun t ht => by rw [eM_19, u_set_far (by decide)]; exact hdN t ht) (by rw [hA2, hYs]; by_cases z6 : i + 1 < 6; (rw [if_pos z6, fAfW_c hgc (by omega), show 6 - (i + 1) = 5 - i by omega]); (rw [if_neg z6, show 5 - i = 0 by omega]; unfold fAfW; rw [if_pos hgc, if_pos rfl]; rfl)) _ _ _ h (lv_sub hl [0, 3] rfl)
              · skip
                have c_12 : zz = 0 := (nI_eq (a := zz) (b := 0) (by omega) (by omega)).mp c_12
                refine lv_iconst (v := 1) hx hb dX7_readWordsOf_129 (by decide) ?_
                refine lv_goto (tgt := 134) hx hb dX7_readWordsOf_130 (by decide) ?_
                refine ur_puti C h 251 (by decide) (uc_251 E _) (Cn := RX7) (T := TX7) (N := 17) rfl hin7 tyX7 tyX7_ok nmX7 4 (by decide) (by decide +kernel) rfl (by rfl) rfl (Nat.le_of_ble_eq_true rfl) (us_251_4 E _ _) dX7_readWordsOf_134 (fun M_21 H locs eM_21 h => ?_)
                have hfM_21 : M_21.1 251 4 = 1 := by rw [eM_21]; rfl
                have hpM_21 : M_21.1 251 3 = nI (tQ (M.1 253) ty (x)) := by rw [eM_21, u_set1, if_pos rfl, if_neg (by decide)]; exact hpx2
                have hKM_21 : mJ Mi M_21 i := mJ_trans hKx (show mJ Mx M_21 i from by rw [eM_21]; exact mJ_f (Or.inr rfl))
                have hxY : x = tWs (tS (M.1 253) ty) m i := hzx.mp (by omega)
                have hpy : M_21.1 251 3 = nI (tQ (M.1 253) ty (tWs (tS (M.1 253) ty) m i)) := by rw [← hxY]; exact hpM_21
                have hAf : fWds (tS (M.1 253) ty) m 0 6 = (false, tWs (tS (M.1 253) ty) m i, i) := by rw [hA1, show 6 - i = 5 - i + 1 by omega, fWds_b (by rw [hW]; exact fun q => q hxY)]
                refine lv_aload_n hx hb dX7_readWordsOf_137 rfl (lv_at hl 3 rfl) ?_
                refine ur_get C h 251 (by decide) (uc_251 E _) (Cn := RX7) (T := TX7) (N := 17) rfl hin7 4 (by decide) (by decide +kernel) rfl dX7_readWordsOf_138 ?_
                refine ur_eq (y := nI 1) (by rw [eM_21, u_set1, if_pos rfl, if_pos rfl]; try rfl) ?_
                refine ur_eq (y := 1) rfl ?_
                refine lv_if_ne (tgt := 151) hx hb dX7_readWordsOf_141 (by decide) (fun c_22 => ?_) (fun z => absurd z (by decide))
                refine lv_iinc (v := nI (i + 1)) (lv' := [(1, .int (nI (i + 1))), (3, .int (tS (M.1 253) ty (x))), (2, .int (nI zz)), (0, .ref (E.2.1 251))]) hx hb dX7_readWordsOf_151 hl (k := 2) rfl (nI_add i 1) (by decide) rfl (fun ls hl => ?_)
                refine lv_goto (tgt := 2) hx hb dX7_readWordsOf_154 (by decide) ?_
                refine lv_aload_n hx hb dX7_readWordsOf_2 rfl (lv_at hl 3 rfl) ?_
                refine ur_get C h 251 (by decide) (uc_251 E _) (Cn := RX7) (T := TX7) (N := 17) rfl hin7 4 (by decide) (by decide +kernel) rfl dX7_readWordsOf_3 ?_
                refine ur_eq (y := nI 1) (by rw [eM_21, u_set1, if_pos rfl, if_pos rfl]; try rfl) ?_
                refine ur_eq (y := 1) rfl ?_
                refine lv_if_ne (tgt := 157) hx hb dX7_readWordsOf_6 (by decide) (fun c_23 => ?_) (fun z => absurd z (by decide))
                refine lv_iload_n hx hb dX7_readWordsOf_157 rfl (lv_at hl 0 rfl) ?_
                exact ur_iret C h hr hlocks (⟨mFr_trans hK0.1 hKM_21.1, hKM_21.2.1.trans hK0.2, by unfold mWdsPost; rw [hAf, if_neg Bool.false_ne_true]; exact ⟨hfM_21, hpy⟩⟩) dX7_readWordsOf_158
            · skip
              have c_10 : 97 ≤ (tS (M.1 253) ty (x)).toInt ∧ (tS (M.1 253) ty (x)).toInt ≤ 102 := uz_t er_8 c_10
              have hab : 97 ≤ bb ∧ bb ≤ 102 := by have := c_10; rw [hbi] at this; omega
              obtain ⟨hft, hix0⟩ := m_fit hbb hab hz0 hz1 hz2 hlo6
              rw [← ebb] at hft hix0
              have hix := hix0
              have h2s : 2 ^ (bb - 97) ≤ 32 := (Nat.pow_le_pow_right (by decide) (by omega) : 2 ^ (bb - 97) ≤ 2 ^ 5)
              have hz64 : zz < 64 := Nat.lt_of_lt_of_le hz2 (Nat.pow_le_pow_right (by decide) hlo6 : 2 ^ lo ≤ 2 ^ 6)
              refine lv_iconst (v := 1) hx hb dX7_readWordsOf_80 (by decide) ?_
              refine lv_iload_n hx hb dX7_readWordsOf_81 rfl (lv_at hl 0 rfl) ?_
              refine ur_eq (y := nI bb) ebb ?_
              refine lv_bipush (v := 97) hx hb dX7_readWordsOf_82 (by decide) ?_
              refine lv_isub hx hb dX7_readWordsOf_84 ?_
              refine ur_eq (y := nI (bb - 97)) ((pk_sub (a := bb) (b := 97) (by omega)).trans (congrArg nI (by omega))) ?_
              refine lv_ishl hx hb dX7_readWordsOf_85 ?_
              refine ur_eq (y := nI (2 ^ (bb - 97))) (u_sh6 ⟨bb - 97, by omega⟩) ?_
              refine lv_iload_n hx hb dX7_readWordsOf_86 rfl (lv_at hl 1 rfl) ?_
              refine lv_icmp_le (tgt := 117) hx hb dX7_readWordsOf_87 (by decide) (fun c_24 => ?_) (fun c_24 => ?_)
              · skip
                have c_24 : (2 ^ (bb - 97)) ≤ zz := (nI_leI (a := (2 ^ (bb - 97))) (b := zz) (by omega) (by omega)).mp c_24
                have hno : ¬ nI lo ≤ tIx 5 (tS (M.1 253) ty (x)) := fun q => hft.mp q c_24
                have hW : fW (tS (M.1 253) ty) (tWs (tS (M.1 253) ty) m i) = (x, zz) := hfw.trans (fWd_b hno)
                refine lv_aload_n hx hb dX7_readWordsOf_117 rfl (lv_at hl 3 rfl) ?_
                refine lv_aload_n hx hb dX7_readWordsOf_118 rfl (lv_at hl 3 rfl) ?_
                refine ur_get C h 251 (by decide) (uc_251 E _) (Cn := RX7) (T := TX7) (N := 17) rfl hin7 4 (by decide) (by decide +kernel) rfl dX7_readWordsOf_119 ?_
                refine ur_eq (y := 0) hfx ?_
                refine lv_if_ne (tgt := 129) hx hb dX7_readWordsOf_122 (by decide) (fun z => absurd z (by decide)) (fun c_25 => ?_)
                refine lv_iload_n hx hb dX7_readWordsOf_125 rfl (lv_at hl 1 rfl) ?_
                refine lv_if_ne (tgt := 133) hx hb dX7_readWordsOf_126 (by decide) (fun c_26 => ?_) (fun c_26 => ?_)
                · skip
                  have c_26 : ¬ zz = 0 := fun z => c_26 ((nI_eq (a := zz) (b := 0) (by omega) (by omega)).mpr z)
                  refine lv_iconst (v := 0) hx hb dX7_readWordsOf_133 (by decide) ?_
                  refine ur_puti C h 251 (by decide) (uc_251 E _) (Cn := RX7) (T := TX7) (N := 17) rfl hin7 tyX7 tyX7_ok nmX7 4 (by decide) (by decide +kernel) rfl (by rfl) rfl (Nat.le_of_ble_eq_true rfl) (us_251_4 E _ _) dX7_readWordsOf_134 (fun M_27 H locs eM_27 h => ?_)
                  have hfM_27 : M_27.1 251 4 = 0 := by rw [eM_27]; rfl
                  have hpM_27 : M_27.1 251 3 = nI (tQ (M.1 253) ty (x)) := by rw [eM_27, u_set1, if_pos rfl, if_neg (by decide)]; exact hpx2
                  have hKM_27 : mJ Mi M_27 i := mJ_trans hKx (show mJ Mx M_27 i from by rw [eM_27]; exact mJ_f (Or.inr rfl))
                  have h253M_27 : M_27.1 253 = M.1 253 := (show M_27.1 253 = Mx.1 253 from by rw [eM_27]; rfl).trans (hKx.1.1 253 (by decide) (by decide) (by decide) |>.trans (hK0.1.1 253 (by decide) (by decide) (by decide)))
                  have htyM_27 : M_27.1 251 2 = nI ty := by rw [eM_27]; exact ((hKx.1.2.1 2 (by decide) (by decide)).trans ((hK0.1.2.1 2 (by decide) (by decide)).trans hty))
                  have hWn : (fW (tS (M.1 253) ty) (tWs (tS (M.1 253) ty) m i)).1 ≠ tWs (tS (M.1 253) ty) m i := by rw [hW]; exact fun q => by have := hzx.mpr q; omega
                  have hA2 : fWds (tS (M.1 253) ty) m 0 6 = fAfW (tS (M.1 253) ty) x (i + 1) (5 - i) := by rw [hA1, show 6 - i = 5 - i + 1 by omega, fWds_g hWn, hW]
                  have hYs : tWs (tS (M.1 253) ty) m (i + 1) = x + 1 := by show (fW (tS (M.1 253) ty) (tWs (tS (M.1 253) ty) m i)).1 + 1 = x + 1; rw [hW]
                  refine lv_aload_n hx hb dX7_readWordsOf_137 rfl (lv_at hl 3 rfl) ?_
                  refine ur_get C h 251 (by decide) (uc_251 E _) (Cn := RX7) (T := TX7) (N := 17) rfl hin7 4 (by decide) (by decide +kernel) rfl dX7_readWordsOf_138 ?_
                  refine ur_eq (y := nI 0) (by rw [eM_27, u_set1, if_pos rfl, if_pos rfl]; try rfl) ?_
                  refine ur_eq (y := 0) rfl ?_
                  refine lv_if_ne (tgt := 151) hx hb dX7_readWordsOf_141 (by decide) (fun z => absurd z (by decide)) (fun c_28 => ?_)
                  refine lv_aload_n hx hb dX7_readWordsOf_144 rfl (lv_at hl 3 rfl) ?_
                  refine ur_get C h 251 (by decide) (uc_251 E _) (Cn := RX7) (T := TX7) (N := 17) rfl hin7 6 (by decide) (by decide +kernel) rfl dX7_readWordsOf_145 ?_
                  refine lv_iload_n hx hb dX7_readWordsOf_148 rfl (lv_at hl 2 rfl) ?_
                  refine lv_iload_n hx hb dX7_readWordsOf_149 rfl (lv_at hl 1 rfl) ?_
                  refine ur_iast C h 255 (by decide) (uc_255 E) (i) (by omega) (by decide) dX7_readWordsOf_150 (fun M_29 H locs eM_29 h => ?_)
                  have hfM_29 : M_29.1 251 4 = 0 := by rw [eM_29, u_set_far (by decide)]; exact hfM_27
                  have hppM_29 : M_29.1 251 3 = nI (tQ (M.1 253) ty (x)) := by rw [eM_29, u_set_far (by decide)]; exact hpM_27
                  have hKM_29 : mJ Mi M_29 i := mJ_trans hKM_27 (show mJ M_27 M_29 i from by rw [eM_29]; exact mJ_r (Nat.le_refl _))
                  have h253M_29 : M_29.1 253 = M.1 253 := (show M_29.1 253 = M_27.1 253 from by rw [eM_29]; rfl).trans h253M_27
                  have htyM_29 : M_29.1 251 2 = nI ty := by rw [eM_29]; exact htyM_27
                  have hdN : ∀ t, t < i + 1 → M_29.1 255 t = nI (fW (tS (M.1 253) ty) (tWs (tS (M.1 253) ty) m t)).2 := fun t ht => by rcases Nat.lt_or_ge t i with zt | zt; (rw [hKM_29.2.2 t zt]; exact hdat t zt); (rw [show t = i by omega, eM_29, u_set1, if_pos rfl, if_pos rfl, hW])
                  refine lv_iinc (v := nI (i + 1)) (lv' := [(1, .int (nI (i + 1))), (3, .int (tS (M.1 253) ty (x))), (2, .int (nI zz)), (0, .ref (E.2.1 251))]) hx hb dX7_readWordsOf_151 hl (k := 2) rfl (nI_add i 1) (by decide) rfl (fun ls hl => ?_)
                  refine lv_goto (tgt := 2) hx hb dX7_readWordsOf_154 (by decide) ?_
                  refine lv_aload_n hx hb dX7_readWordsOf_2 rfl (lv_at hl 3 rfl) ?_
                  refine ur_get C h 251 (by decide) (uc_251 E _) (Cn := RX7) (T := TX7) (N := 17) rfl hin7 4 (by decide) (by decide +kernel) rfl dX7_readWordsOf_3 ?_
                  refine ur_eq (y := nI 0) (by rw [eM_29, u_set1, if_neg (by decide), eM_27, u_set1, if_pos rfl, if_pos rfl]; try rfl) ?_
                  refine ur_eq (y := 0) rfl ?_
                  refine lv_if_ne (tgt := 157) hx hb dX7_readWordsOf_6 (by decide) (fun z => absurd z (by decide)) (fun c_30 => ?_)
                  refine lv_iload_n hx hb dX7_readWordsOf_9 rfl (lv_at hl 0 rfl) ?_
                  refine lv_if_eq (tgt := 22) hx hb dX7_readWordsOf_10 (by decide) (fun c_31 => ?_) (fun c_31 => ?_)
                  · skip
                    have c_31 : (i + 1) = 0 := (nI_eq (a := (i + 1)) (b := 0) (by omega) (by omega)).mp c_31
                    exact ih22  (i + 1) 0 M_29 (by omega) (absurd c_31 (by omega)) (absurd c_31 (by omega)) (absurd c_31 (by omega)) (absurd c_31 (by omega)) (absurd c_31 (by omega)) (absurd c_31 (by omega)) (absurd c_31 (by omega)) (absurd c_31 (by omega)) (absurd c_31 (by omega)) _ _ _ h (lv_sub hl [0, 3] rfl)
                  · skip
                    have c_31 : ¬ (i + 1) = 0 := fun z => c_31 ((nI_eq (a := (i + 1)) (b := 0) (by omega) (by omega)).mpr z)
                    refine lv_aload_n hx hb dX7_readWordsOf_13 rfl (lv_at hl 3 rfl) ?_
                    refine ur_callVi C h (k := 251) (As := []) (rest := []) (k_X7_here l E hI M_29 ty htyM_29 hty90 (tQ (M.1 253) ty (x)) hppM_29 (tQ_le hNx)) (cwV 0 hts gX7_readWordsOf_X7_here rfl rfl rfl (by decide +kernel) ⟨Nat.le_of_ble_eq_true rfl, Nat.le_of_ble_eq_true rfl⟩) (by decide) (uc_251 E _) (T := TX7) (N := 17) rfl rfl hl.1 rfl (Nat.le_of_ble_eq_true rfl) dX7_readWordsOf_14 (fun r_32 M_33 H locs hw_33 h => ?_)
                    obtain ⟨eM_33, er_32⟩ := hw_33
                    rw [h253M_29] at eM_33 er_32
                    rw [tAt_of tQ_sk] at er_32
                    rw [show tSk (M.1 253) ty (tQ (M.1 253) ty (x)) = (tQ (M.1 253) ty (x)) from tQ_sk] at eM_33
                    have hfM_33 : M_33.1 251 4 = 0 := by rw [eM_33, u_set1, if_pos rfl, if_neg (by decide)]; exact hfM_29
                    have hpM_33 : M_33.1 251 3 = nI (tQ (M.1 253) ty (x)) := by rw [eM_33]; rfl
                    have h253M_33 : M_33.1 253 = M.1 253 := (show M_33.1 253 = M_29.1 253 from by rw [eM_33, u_set_far (by decide)]).trans h253M_29
                    have htyM_33 : M_33.1 251 2 = nI ty := by rw [eM_33, u_set1, if_pos rfl, if_neg (by decide)]; exact htyM_29
                    have hkM_33 : mJ M_29 M_33 i := by rw [eM_33]; exact mJ_f (by decide)
                    have hKM_33 : mJ Mi M_33 i := mJ_trans hKM_29 hkM_33
                    refine ur_eq (y := (tS (M.1 253) ty (x))) er_32 ?_
                    refine lv_bipush (v := 44) hx hb dX7_readWordsOf_17 (by decide) ?_
                    refine lv_icmp_ne (tgt := 157) hx hb dX7_readWordsOf_19 (by decide) (fun c_34 => ?_) (fun c_34 => ?_)
                    · skip
                      have hgn : ¬ 0 ≤ tIx 2 (tS (M.1 253) ty (x)) := fun zq => c_34 ((mS_sep hlet x).1.mp zq)
                      refine lv_iload_n hx hb dX7_readWordsOf_157 rfl (lv_at hl 0 rfl) ?_
                      exact ur_iret C h hr hlocks (⟨mFr_trans hK0.1 hKM_33.1, hKM_33.2.1.trans hK0.2, by unfold mWdsPost; rw [hA2, fAfW_n hgn, if_pos rfl]; exact ⟨hfM_33, hpM_33, hNx, rfl, fun t ht => by rw [eM_33, u_set_far (by decide)]; exact hdN t ht⟩⟩) dX7_readWordsOf_158
                    · skip
                      have hgc : 0 ≤ tIx 2 (tS (M.1 253) ty (x)) := (mS_sep hlet x).1.mpr c_34
                      exact ih22  (i + 1) (tQ (M.1 253) ty (x)) M_33 (by omega) (by omega) ⟨mFr_trans hK0.1 hKM_33.1, hKM_33.2.1.trans hK0.2⟩ hfM_33 hpM_33 (tQ_le hNx) (Or.inr ⟨by omega, by rw [hYs]; omega, by rw [hYs]; rfl⟩) (by rw [hYs]; exact t_lt (k := 2) (by decide) (by decide) hgc) (fun t ht => by rw [eM_33, u_set_far (by decide)]; exact hdN t ht) (by rw [hA2, hYs]; by_cases z6 : i + 1 < 6; (rw [if_pos z6, fAfW_c hgc (by omega), show 6 - (i + 1) = 5 - i by omega]); (rw [if_neg z6, show 5 - i = 0 by omega]; unfold fAfW; rw [if_pos hgc, if_pos rfl]; rfl)) _ _ _ h (lv_sub hl [0, 3] rfl)
                · skip
                  have c_26 : zz = 0 := (nI_eq (a := zz) (b := 0) (by omega) (by omega)).mp c_26
                  refine lv_iconst (v := 1) hx hb dX7_readWordsOf_129 (by decide) ?_
                  refine lv_goto (tgt := 134) hx hb dX7_readWordsOf_130 (by decide) ?_
                  refine ur_puti C h 251 (by decide) (uc_251 E _) (Cn := RX7) (T := TX7) (N := 17) rfl hin7 tyX7 tyX7_ok nmX7 4 (by decide) (by decide +kernel) rfl (by rfl) rfl (Nat.le_of_ble_eq_true rfl) (us_251_4 E _ _) dX7_readWordsOf_134 (fun M_35 H locs eM_35 h => ?_)
                  have hfM_35 : M_35.1 251 4 = 1 := by rw [eM_35]; rfl
                  have hpM_35 : M_35.1 251 3 = nI (tQ (M.1 253) ty (x)) := by rw [eM_35, u_set1, if_pos rfl, if_neg (by decide)]; exact hpx2
                  have hKM_35 : mJ Mi M_35 i := mJ_trans hKx (show mJ Mx M_35 i from by rw [eM_35]; exact mJ_f (Or.inr rfl))
                  have hxY : x = tWs (tS (M.1 253) ty) m i := hzx.mp (by omega)
                  have hpy : M_35.1 251 3 = nI (tQ (M.1 253) ty (tWs (tS (M.1 253) ty) m i)) := by rw [← hxY]; exact hpM_35
                  have hAf : fWds (tS (M.1 253) ty) m 0 6 = (false, tWs (tS (M.1 253) ty) m i, i) := by rw [hA1, show 6 - i = 5 - i + 1 by omega, fWds_b (by rw [hW]; exact fun q => q hxY)]
                  refine lv_aload_n hx hb dX7_readWordsOf_137 rfl (lv_at hl 3 rfl) ?_
                  refine ur_get C h 251 (by decide) (uc_251 E _) (Cn := RX7) (T := TX7) (N := 17) rfl hin7 4 (by decide) (by decide +kernel) rfl dX7_readWordsOf_138 ?_
                  refine ur_eq (y := nI 1) (by rw [eM_35, u_set1, if_pos rfl, if_pos rfl]; try rfl) ?_
                  refine ur_eq (y := 1) rfl ?_
                  refine lv_if_ne (tgt := 151) hx hb dX7_readWordsOf_141 (by decide) (fun c_36 => ?_) (fun z => absurd z (by decide))
                  refine lv_iinc (v := nI (i + 1)) (lv' := [(1, .int (nI (i + 1))), (3, .int (tS (M.1 253) ty (x))), (2, .int (nI zz)), (0, .ref (E.2.1 251))]) hx hb dX7_readWordsOf_151 hl (k := 2) rfl (nI_add i 1) (by decide) rfl (fun ls hl => ?_)
                  refine lv_goto (tgt := 2) hx hb dX7_readWordsOf_154 (by decide) ?_
                  refine lv_aload_n hx hb dX7_readWordsOf_2 rfl (lv_at hl 3 rfl) ?_
                  refine ur_get C h 251 (by decide) (uc_251 E _) (Cn := RX7) (T := TX7) (N := 17) rfl hin7 4 (by decide) (by decide +kernel) rfl dX7_readWordsOf_3 ?_
                  refine ur_eq (y := nI 1) (by rw [eM_35, u_set1, if_pos rfl, if_pos rfl]; try rfl) ?_
                  refine ur_eq (y := 1) rfl ?_
                  refine lv_if_ne (tgt := 157) hx hb dX7_readWordsOf_6 (by decide) (fun c_37 => ?_) (fun z => absurd z (by decide))
                  refine lv_iload_n hx hb dX7_readWordsOf_157 rfl (lv_at hl 0 rfl) ?_
                  exact ur_iret C h hr hlocks (⟨mFr_trans hK0.1 hKM_35.1, hKM_35.2.1.trans hK0.2, by unfold mWdsPost; rw [hAf, if_neg Bool.false_ne_true]; exact ⟨hfM_35, hpy⟩⟩) dX7_readWordsOf_158
              · skip
                have c_24 : ¬ (2 ^ (bb - 97)) ≤ zz := fun z => c_24 ((nI_leI (a := (2 ^ (bb - 97))) (b := zz) (by omega) (by omega)).mpr z)
                have hg5 := hft.mpr c_24
                have hls : lo ≤ bb - 97 := (nI_le_iff (by omega) (by omega)).mp (by rw [← hix]; exact hg5)
                have hrz := t_rise hls hz2 (show bb - 97 < 6 by omega)
                have hN1 : (tN (M.1 253) ty (x + 1)) ≤ ty := t_lt (k := 5) (by decide) (t_ge1 (lo := lo) (by omega)) hg5
                refine lv_iload_n hx hb dX7_readWordsOf_90 rfl (lv_at hl 1 rfl) ?_
                refine lv_iconst (v := 1) hx hb dX7_readWordsOf_91 (by decide) ?_
                refine lv_iload_n hx hb dX7_readWordsOf_92 rfl (lv_at hl 0 rfl) ?_
                refine ur_eq (y := nI bb) ebb ?_
                refine lv_bipush (v := 97) hx hb dX7_readWordsOf_93 (by decide) ?_
                refine lv_isub hx hb dX7_readWordsOf_95 ?_
                refine ur_eq (y := nI (bb - 97)) ((pk_sub (a := bb) (b := 97) (by omega)).trans (congrArg nI (by omega))) ?_
                refine lv_ishl hx hb dX7_readWordsOf_96 ?_
                refine lv_ior hx hb dX7_readWordsOf_97 ?_
                refine ur_eq (y := nI (zz + 2 ^ (bb - 97))) hrz.1 ?_
                refine lv_istore_n (lv' := [(2, .int (nI (zz + 2 ^ (bb - 97)))), (3, .int (tS (M.1 253) ty (x))), (1, .int (nI i)), (0, .ref (E.2.1 251))]) hx hb dX7_readWordsOf_98 rfl hl (by decide) rfl (fun ls hl => ?_)
                refine lv_aload_n hx hb dX7_readWordsOf_99 rfl (lv_at hl 3 rfl) ?_
                refine lv_dup hx hb dX7_readWordsOf_100 rfl ?_
                refine ur_get C h 251 (by decide) (uc_251 E _) (Cn := RX7) (T := TX7) (N := 17) rfl hin7 3 (by decide) (by decide +kernel) rfl dX7_readWordsOf_101 ?_
                refine ur_eq (y := nI (tQ (M.1 253) ty (x))) (hpx2) ?_
                refine lv_iconst (v := 1) hx hb dX7_readWordsOf_104 (by decide) ?_
                refine lv_iadd hx hb dX7_readWordsOf_105 ?_
                refine ur_eq (y := nI ((tQ (M.1 253) ty (x)) + 1)) (nI_add (tQ (M.1 253) ty (x)) 1) ?_
                refine ur_puti C h 251 (by decide) (uc_251 E _) (Cn := RX7) (T := TX7) (N := 17) rfl hin7 tyX7 tyX7_ok nmX7 3 (by decide) (by decide +kernel) rfl rfl rfl (Nat.le_of_ble_eq_true rfl) (us_251_3 E _ _) dX7_readWordsOf_106 (fun M_38 H locs eM_38 h => ?_)
                have hfM_38 : M_38.1 251 4 = 0 := by rw [eM_38, u_set1, if_pos rfl, if_neg (by decide)]; exact hfx
                have hpM_38 : M_38.1 251 3 = nI (tN (M.1 253) ty (x + 1)) := by rw [eM_38]; rfl
                have h253M_38 : M_38.1 253 = M.1 253 := (show M_38.1 253 = Mx.1 253 from by rw [eM_38]; rfl).trans (hKx.1.1 253 (by decide) (by decide) (by decide) |>.trans (hK0.1.1 253 (by decide) (by decide) (by decide)))
                have htyM_38 : M_38.1 251 2 = nI ty := by rw [eM_38]; exact ((hKx.1.2.1 2 (by decide) (by decide)).trans ((hK0.1.2.1 2 (by decide) (by decide)).trans hty))
                have hKM_38 : mJ Mi M_38 i := mJ_trans hKx (show mJ Mx M_38 i from by rw [eM_38]; exact mJ_f (Or.inl rfl))
                refine lv_aload_n hx hb dX7_readWordsOf_109 rfl (lv_at hl 3 rfl) ?_
                refine ur_callVi C h (k := 251) (As := []) (rest := []) (k_X7_here l E hI M_38 ty htyM_38 hty90 (tN (M.1 253) ty (x + 1)) hpM_38 hN1) (cwV 0 hts gX7_readWordsOf_X7_here rfl rfl rfl (by decide +kernel) ⟨Nat.le_of_ble_eq_true rfl, Nat.le_of_ble_eq_true rfl⟩) (by decide) (uc_251 E _) (T := TX7) (N := 17) rfl rfl hl.1 rfl (Nat.le_of_ble_eq_true rfl) dX7_readWordsOf_110 (fun r_39 M_40 H locs hw_40 h => ?_)
                obtain ⟨eM_40, er_39⟩ := hw_40
                rw [h253M_38] at eM_40 er_39
                rw [tAt_of rfl] at er_39
                rw [show tSk (M.1 253) ty (tN (M.1 253) ty (x + 1)) = (tQ (M.1 253) ty (x + 1)) from rfl] at eM_40
                have hfM_40 : M_40.1 251 4 = 0 := by rw [eM_40, u_set1, if_pos rfl, if_neg (by decide)]; exact hfM_38
                have hpM_40 : M_40.1 251 3 = nI (tQ (M.1 253) ty (x + 1)) := by rw [eM_40]; rfl
                have h253M_40 : M_40.1 253 = M.1 253 := (show M_40.1 253 = M_38.1 253 from by rw [eM_40, u_set_far (by decide)]).trans h253M_38
                have htyM_40 : M_40.1 251 2 = nI ty := by rw [eM_40, u_set1, if_pos rfl, if_neg (by decide)]; exact htyM_38
                have hkM_40 : mJ M_38 M_40 i := by rw [eM_40]; exact mJ_f (by decide)
                have hKM_40 : mJ Mi M_40 i := mJ_trans hKM_38 hkM_40
                refine ur_eq (y := (tS (M.1 253) ty (x + 1))) er_39 ?_
                refine lv_istore_n (lv' := [(3, .int (tS (M.1 253) ty (x + 1))), (2, .int (nI (zz + 2 ^ (bb - 97)))), (1, .int (nI i)), (0, .ref (E.2.1 251))]) hx hb dX7_readWordsOf_113 rfl hl (by decide) rfl (fun ls hl => ?_)
                refine lv_goto (tgt := 59) hx hb dX7_readWordsOf_114 (by decide) ?_
                exact ih59  (kk + 1) (x + 1) (bb - 97 + 1) (zz + 2 ^ (bb - 97)) M_40 (by omega) (by omega) (by omega) (fun q => absurd q (by omega)) (fun _ => by rw [Nat.add_sub_cancel]; omega) hrz.2 ⟨fun q => absurd q (by have := Nat.two_pow_pos (bb - 97); omega), fun q => absurd q (by omega)⟩ (by omega) hKM_40 hfM_40 hpM_40 hN1 (by rw [hfw, show 6 - kk = 6 - (kk + 1) + 1 by omega, fWd_g hg5, hix, tn_nI (by omega)]) _ _ _ h (lv_sub hl [0, 1, 2, 3] rfl)
        exact lp59 _ 0 (tWs (tS (M.1 253) ty) m i) 0 0 M_6 (Nat.lt_succ_self _) (by omega) (by omega) (fun _ => rfl) (fun q => absurd q (by omega)) (by decide) ⟨fun _ => rfl, fun _ => rfl⟩ (Nat.le_refl _) hKM_6 hfM_6 hpM_6 hNi rfl _ _ _ h (lv_sub hl [0, 1, 2, 3] rfl)
      · skip
        have c_3 : ¬ i ≤ 0 := fun z => c_3 ((nI_leI (a := i) (b := 0) (by omega) (by omega)).mpr z)
        refine lv_aload_n hx hb dX7_readWordsOf_26 rfl (lv_at hl 1 rfl) ?_
        refine lv_iload_n hx hb dX7_readWordsOf_27 rfl (lv_at hl 0 rfl) ?_
        refine lv_bipush (v := 6) hx hb dX7_readWordsOf_28 (by decide) ?_
        refine lv_icmp_ge (tgt := 37) hx hb dX7_readWordsOf_30 (by decide) (fun c_41 => ?_) (fun c_41 => ?_)
        · skip
          have c_41 : 6 ≤ i := (nI_leI (a := 6) (b := i) (by omega) (by omega)).mp c_41
          refine lv_iconst (v := 0) hx hb dX7_readWordsOf_37 (by decide) ?_
          refine ur_callVv C h (k := 251) (As := [.int 0]) (rest := []) (k_X7_must_n l E hI Mi hfi pl hpi) (cwV 1 hts gX7_readWordsOf_X7_must rfl rfl rfl (by decide +kernel) ⟨Nat.le_of_ble_eq_true rfl, Nat.le_of_ble_eq_true rfl⟩) (by decide) (uc_251 E _) (T := TX7) (N := 17) rfl rfl hl.1 rfl (Nat.le_of_ble_eq_true rfl) dX7_readWordsOf_38 (fun M_43 H locs hw_43 h => ?_)
          have eM_43 := hw_43
          have hfM_43 : M_43.1 251 4 = 1 := by rw [eM_43]; rfl
          have hpM_43 : M_43.1 251 3 = nI pl := by rw [eM_43, u_set1, if_pos rfl, if_neg (by decide)]; exact hpi
          have hkM_43 : mJ Mi M_43 i := by rw [eM_43]; exact mJ_f (by decide)
          have hKM_43 : mJ Mi M_43 i := mJ_trans (mJ_refl Mi i) hkM_43
          have hpl2 : pl = (tQ (M.1 253) ty (tWs (tS (M.1 253) ty) m i - 1)) := by rcases hc with hc | hc; omega; exact hc.2.2
          have hAf : fWds (tS (M.1 253) ty) m 0 6 = (false, tWs (tS (M.1 253) ty) m i - 1, i) := by rw [hA, if_neg (by omega)]
          refine lv_iconst (v := 0) hx hb dX7_readWordsOf_41 (by decide) ?_
          refine lv_istore_n (lv' := [(2, .int 0), (1, .int (nI i)), (0, .ref (E.2.1 251))]) hx hb dX7_readWordsOf_42 rfl hl (by decide) rfl (fun ls hl => ?_)
          refine lv_aload_n hx hb dX7_readWordsOf_43 rfl (lv_at hl 2 rfl) ?_
          refine ur_get C h 251 (by decide) (uc_251 E _) (Cn := RX7) (T := TX7) (N := 17) rfl hin7 4 (by decide) (by decide +kernel) rfl dX7_readWordsOf_44 ?_
          refine ur_eq (y := 1) hfM_43 ?_
          refine lv_if_eq (tgt := 54) hx hb dX7_readWordsOf_47 (by decide) (fun z => absurd z (by decide)) (fun c_44 => ?_)
          refine lv_iconst (v := 0) hx hb dX7_readWordsOf_50 (by decide) ?_
          refine lv_goto (tgt := 58) hx hb dX7_readWordsOf_51 (by decide) ?_
          refine lv_istore_n (lv' := [(3, .int 0), (2, .int 0), (1, .int (nI i)), (0, .ref (E.2.1 251))]) hx hb dX7_readWordsOf_58 rfl hl (by decide) rfl (fun ls hl => ?_)
          refine lv_aload_n hx hb dX7_readWordsOf_59 rfl (lv_at hl 3 rfl) ?_
          refine ur_get C h 251 (by decide) (uc_251 E _) (Cn := RX7) (T := TX7) (N := 17) rfl hin7 4 (by decide) (by decide +kernel) rfl dX7_readWordsOf_60 ?_
          refine ur_eq (y := 1) hfM_43 ?_
          refine lv_if_ne (tgt := 117) hx hb dX7_readWordsOf_63 (by decide) (fun c_45 => ?_) (fun z => absurd z (by decide))
          refine lv_aload_n hx hb dX7_readWordsOf_117 rfl (lv_at hl 3 rfl) ?_
          refine lv_aload_n hx hb dX7_readWordsOf_118 rfl (lv_at hl 3 rfl) ?_
          refine ur_get C h 251 (by decide) (uc_251 E _) (Cn := RX7) (T := TX7) (N := 17) rfl hin7 4 (by decide) (by decide +kernel) rfl dX7_readWordsOf_119 ?_
          refine ur_eq (y := 1) hfM_43 ?_
          refine lv_if_ne (tgt := 129) hx hb dX7_readWordsOf_122 (by decide) (fun c_46 => ?_) (fun z => absurd z (by decide))
          refine lv_iconst (v := 1) hx hb dX7_readWordsOf_129 (by decide) ?_
          refine lv_goto (tgt := 134) hx hb dX7_readWordsOf_130 (by decide) ?_
          refine ur_puti C h 251 (by decide) (uc_251 E _) (Cn := RX7) (T := TX7) (N := 17) rfl hin7 tyX7 tyX7_ok nmX7 4 (by decide) (by decide +kernel) rfl (by rfl) rfl (Nat.le_of_ble_eq_true rfl) (us_251_4 E _ _) dX7_readWordsOf_134 (fun M_47 H locs eM_47 h => ?_)
          have hfM_47 : M_47.1 251 4 = 1 := by rw [eM_47]; rfl
          have hpM_47 : M_47.1 251 3 = nI (tQ (M.1 253) ty (tWs (tS (M.1 253) ty) m i - 1)) := by rw [eM_47, u_set1, if_pos rfl, if_neg (by decide)]; exact (by rw [← hpl2]; exact hpM_43)
          have hKM_47 : mJ Mi M_47 i := mJ_trans hKM_43 (show mJ M_43 M_47 i from by rw [eM_47]; exact mJ_f (Or.inr rfl))
          refine lv_aload_n hx hb dX7_readWordsOf_137 rfl (lv_at hl 3 rfl) ?_
          refine ur_get C h 251 (by decide) (uc_251 E _) (Cn := RX7) (T := TX7) (N := 17) rfl hin7 4 (by decide) (by decide +kernel) rfl dX7_readWordsOf_138 ?_
          refine ur_eq (y := nI 1) (by rw [eM_47, u_set1, if_pos rfl, if_pos rfl]; try rfl) ?_
          refine ur_eq (y := 1) rfl ?_
          refine lv_if_ne (tgt := 151) hx hb dX7_readWordsOf_141 (by decide) (fun c_48 => ?_) (fun z => absurd z (by decide))
          refine lv_iinc (v := nI (i + 1)) (lv' := [(1, .int (nI (i + 1))), (3, .int 0), (2, .int 0), (0, .ref (E.2.1 251))]) hx hb dX7_readWordsOf_151 hl (k := 2) rfl (nI_add i 1) (by decide) rfl (fun ls hl => ?_)
          refine lv_goto (tgt := 2) hx hb dX7_readWordsOf_154 (by decide) ?_
          refine lv_aload_n hx hb dX7_readWordsOf_2 rfl (lv_at hl 3 rfl) ?_
          refine ur_get C h 251 (by decide) (uc_251 E _) (Cn := RX7) (T := TX7) (N := 17) rfl hin7 4 (by decide) (by decide +kernel) rfl dX7_readWordsOf_3 ?_
          refine ur_eq (y := nI 1) (by rw [eM_47, u_set1, if_pos rfl, if_pos rfl]; try rfl) ?_
          refine ur_eq (y := 1) rfl ?_
          refine lv_if_ne (tgt := 157) hx hb dX7_readWordsOf_6 (by decide) (fun c_49 => ?_) (fun z => absurd z (by decide))
          refine lv_iload_n hx hb dX7_readWordsOf_157 rfl (lv_at hl 0 rfl) ?_
          exact ur_iret C h hr hlocks (⟨mFr_trans hK0.1 hKM_47.1, hKM_47.2.1.trans hK0.2, by unfold mWdsPost; rw [hAf, if_neg Bool.false_ne_true]; exact ⟨hfM_47, hpM_47⟩⟩) dX7_readWordsOf_158
        · skip
          have c_41 : ¬ 6 ≤ i := fun z => c_41 ((nI_leI (a := 6) (b := i) (by omega) (by omega)).mpr z)
          refine lv_iconst (v := 1) hx hb dX7_readWordsOf_33 (by decide) ?_
          refine lv_goto (tgt := 38) hx hb dX7_readWordsOf_34 (by decide) ?_
          refine ur_callVv C h (k := 251) (As := [.int 1]) (rest := []) (k_X7_must_t l E hI Mi hfi pl hpi) (cwV 1 hts gX7_readWordsOf_X7_must rfl rfl rfl (by decide +kernel) ⟨Nat.le_of_ble_eq_true rfl, Nat.le_of_ble_eq_true rfl⟩) (by decide) (uc_251 E _) (T := TX7) (N := 17) rfl rfl hl.1 rfl (Nat.le_of_ble_eq_true rfl) dX7_readWordsOf_38 (fun M_51 H locs hw_51 h => ?_)
          have eM_51 := hw_51
          have hfM_51 : M_51.1 251 4 = 0 := by rw [eM_51, u_set1, if_pos rfl, if_neg (by decide)]; exact hfi
          have hpM_51 : M_51.1 251 3 = nI (pl + 1) := by rw [eM_51]; rfl
          have hkM_51 : mJ Mi M_51 i := by rw [eM_51]; exact mJ_f (by decide)
          have hKM_51 : mJ Mi M_51 i := mJ_trans (mJ_refl Mi i) hkM_51
          have hi5 : i < 6 := by omega
          have hpl2 : pl + 1 = (tN (M.1 253) ty (tWs (tS (M.1 253) ty) m i)) := by rcases hc with hc | hc; omega; (rw [hc.2.2, tN_p hc.2.1])
          have hpqM_51 : M_51.1 251 3 = nI (tN (M.1 253) ty (tWs (tS (M.1 253) ty) m i)) := by rw [hpM_51, hpl2]
          have h253M_51 : M_51.1 253 = M.1 253 := (show M_51.1 253 = Mi.1 253 from by rw [eM_51]; rfl).trans (hK0.1.1 253 (by decide) (by decide) (by decide))
          have htyM_51 : M_51.1 251 2 = nI ty := by rw [eM_51]; exact ((hK0.1.2.1 2 (by decide) (by decide)).trans hty)
          have hA1 : fWds (tS (M.1 253) ty) m 0 6 = fWds (tS (M.1 253) ty) (tWs (tS (M.1 253) ty) m i) i (6 - i) := by rw [hA, if_pos hi5]
          refine lv_iconst (v := 0) hx hb dX7_readWordsOf_41 (by decide) ?_
          refine lv_istore_n (lv' := [(2, .int 0), (1, .int (nI i)), (0, .ref (E.2.1 251))]) hx hb dX7_readWordsOf_42 rfl hl (by decide) rfl (fun ls hl => ?_)
          refine lv_aload_n hx hb dX7_readWordsOf_43 rfl (lv_at hl 2 rfl) ?_
          refine ur_get C h 251 (by decide) (uc_251 E _) (Cn := RX7) (T := TX7) (N := 17) rfl hin7 4 (by decide) (by decide +kernel) rfl dX7_readWordsOf_44 ?_
          refine ur_eq (y := 0) hfM_51 ?_
          refine lv_if_eq (tgt := 54) hx hb dX7_readWordsOf_47 (by decide) (fun c_52 => ?_) (fun z => absurd z (by decide))
          refine lv_aload_n hx hb dX7_readWordsOf_54 rfl (lv_at hl 2 rfl) ?_
          refine ur_callVi C h (k := 251) (As := []) (rest := []) (k_X7_here l E hI M_51 ty htyM_51 hty90 (tN (M.1 253) ty (tWs (tS (M.1 253) ty) m i)) hpqM_51 hNi) (cwV 0 hts gX7_readWordsOf_X7_here rfl rfl rfl (by decide +kernel) ⟨Nat.le_of_ble_eq_true rfl, Nat.le_of_ble_eq_true rfl⟩) (by decide) (uc_251 E _) (T := TX7) (N := 17) rfl rfl hl.1 rfl (Nat.le_of_ble_eq_true rfl) dX7_readWordsOf_55 (fun r_53 M_54 H locs hw_54 h => ?_)
          obtain ⟨eM_54, er_53⟩ := hw_54
          rw [h253M_51] at eM_54 er_53
          rw [tAt_of rfl] at er_53
          rw [show tSk (M.1 253) ty (tN (M.1 253) ty (tWs (tS (M.1 253) ty) m i)) = (tQ (M.1 253) ty (tWs (tS (M.1 253) ty) m i)) from rfl] at eM_54
          have hfM_54 : M_54.1 251 4 = 0 := by rw [eM_54, u_set1, if_pos rfl, if_neg (by decide)]; exact hfM_51
          have hpM_54 : M_54.1 251 3 = nI (tQ (M.1 253) ty (tWs (tS (M.1 253) ty) m i)) := by rw [eM_54]; rfl
          have h253M_54 : M_54.1 253 = M.1 253 := (show M_54.1 253 = M_51.1 253 from by rw [eM_54, u_set_far (by decide)]).trans h253M_51
          have htyM_54 : M_54.1 251 2 = nI ty := by rw [eM_54, u_set1, if_pos rfl, if_neg (by decide)]; exact htyM_51
          have hkM_54 : mJ M_51 M_54 i := by rw [eM_54]; exact mJ_f (by decide)
          have hKM_54 : mJ Mi M_54 i := mJ_trans hKM_51 hkM_54
          refine ur_eq (y := (tS (M.1 253) ty (tWs (tS (M.1 253) ty) m i))) er_53 ?_
          refine lv_istore_n (lv' := [(3, .int (tS (M.1 253) ty (tWs (tS (M.1 253) ty) m i))), (2, .int 0), (1, .int (nI i)), (0, .ref (E.2.1 251))]) hx hb dX7_readWordsOf_58 rfl hl (by decide) rfl (fun ls hl => ?_)
          have lp59 : ∀ (n59 : Nat) (kk x lo zz : Nat) (Mx : uM), 6 - kk < n59 → (kk ≤ lo) → (lo ≤ 6) → (lo = 0 → zz = 0) → (0 < lo → 2 ^ (lo - 1) ≤ zz) → (zz < 2 ^ lo) → (zz = 0 ↔ x = tWs (tS (M.1 253) ty) m i) → (tWs (tS (M.1 253) ty) m i ≤ x) → (mJ Mi Mx i) → (Mx.1 251 4 = 0) → (Mx.1 251 3 = nI (tQ (M.1 253) ty (x))) → ((tN (M.1 253) ty (x)) ≤ ty) → (fW (tS (M.1 253) ty) (tWs (tS (M.1 253) ty) m i) = fWd (tS (M.1 253) ty) x lo zz (6 - kk)) → ∀ (H : Heap) (locs : List Loc) (ls : Array Slot), uH E Mx s_ H locs → lv_has ls 4 [(3, .int (tS (M.1 253) ty (x))), (2, .int (nI zz)), (1, .int (nI i)), (0, .ref (E.2.1 251))] → W p_ l e_ ({ frames := 1, cells := 0, slots := 0, locals := 25 }) s_ m_ (List.toArray [.ref (E.2.1 251)]) bl_ me_ c_ H locs 0 0 (MQ bl_ (va_Qi (fun r u => mFr M u ∧ u.1 254 = M.1 254 ∧ mWdsPost (tS (M.1 253) ty) (M.1 253) ty u r m (fWds (tS (M.1 253) ty) m 0 6)) (uP E) (uA E)) (List.toArray [.ref (E.2.1 251)]) s_ 0 0 (uA E)) (F0 m_ 59 ls []) := by
            intro n59
            induction n59 with
            | zero => intro kk x lo zz Mx hms; exact absurd hms (Nat.not_lt_zero _)
            | succ n59 ih59 =>
              intro kk x lo zz Mx hms59 hkl hlo6 hz0 hz1 hz2 hzx hYx hKx hfx hpx2 hNx hfw H locs ls h hl
              obtain ⟨bb, hbb, ebb⟩ := mS hlet x
              have hbi : ((tS (M.1 253) ty (x))).toInt = bb := by rw [ebb, nI_toInt (by omega)]
              refine lv_aload_n hx hb dX7_readWordsOf_59 rfl (lv_at hl 3 rfl) ?_
              refine ur_get C h 251 (by decide) (uc_251 E _) (Cn := RX7) (T := TX7) (N := 17) rfl hin7 4 (by decide) (by decide +kernel) rfl dX7_readWordsOf_60 ?_
              refine ur_eq (y := 0) hfx ?_
              refine lv_if_ne (tgt := 117) hx hb dX7_readWordsOf_63 (by decide) (fun z => absurd z (by decide)) (fun c_55 => ?_)
              refine lv_iload_n hx hb dX7_readWordsOf_66 rfl (lv_at hl 0 rfl) ?_
              refine lv_i2l (v := (tS (M.1 253) ty (x)).toInt64) hx hb dX7_readWordsOf_67 rfl ?_
              refine lv_ldc2 (v := 97) hx hb hown (hts (.constantLong RX7 131 97) (by decide +kernel)) dX7_readWordsOf_68 ?_
              refine lv_ldc2 (v := 102) hx hb hown (hts (.constantLong RX7 133 102) (by decide +kernel)) dX7_readWordsOf_71 ?_
              refine ur_callSi C h (As := [.long ((tS (M.1 253) ty (x)).toInt64), .long 97, .long 102]) (rest := []) (k_X7_in l E hI Mx ((tS (M.1 253) ty (x)).toInt64) 97 102) (va_cwS 3 hts gX7_readWordsOf_X7_in rfl rfl rfl (by decide +kernel) ⟨Nat.le_of_ble_eq_true rfl, Nat.le_of_ble_eq_true rfl⟩) rfl hl.1 rfl (Nat.le_of_ble_eq_true rfl) dX7_readWordsOf_74 (fun r_56 M_57 H locs hw_57 h => ?_)
              obtain ⟨hu, er_56⟩ := hw_57
              subst hu
              have er_56 : r_56 = if 97 ≤ (tS (M.1 253) ty (x)).toInt ∧ (tS (M.1 253) ty (x)).toInt ≤ 102 then 1 else 0 := u_in (x := (tS (M.1 253) ty (x)).toInt) (u_w _) rfl rfl er_56
              refine lv_if_eq (tgt := 117) hx hb dX7_readWordsOf_77 (by decide) (fun c_58 => ?_) (fun c_58 => ?_)
              · skip
                have c_58 : ¬ (97 ≤ (tS (M.1 253) ty (x)).toInt ∧ (tS (M.1 253) ty (x)).toInt ≤ 102) := uz_f er_56 c_58
                have hno : ¬ nI lo ≤ tIx 5 (tS (M.1 253) ty (x)) := by rw [ebb]; exact m_nofit hbb (fun q => c_58 (by rw [hbi]; omega)) hlo6
                have hW : fW (tS (M.1 253) ty) (tWs (tS (M.1 253) ty) m i) = (x, zz) := hfw.trans (fWd_b hno)
                have hz64 : zz < 64 := Nat.lt_of_lt_of_le hz2 (Nat.pow_le_pow_right (by decide) hlo6 : 2 ^ lo ≤ 2 ^ 6)
                refine lv_aload_n hx hb dX7_readWordsOf_117 rfl (lv_at hl 3 rfl) ?_
                refine lv_aload_n hx hb dX7_readWordsOf_118 rfl (lv_at hl 3 rfl) ?_
                refine ur_get C h 251 (by decide) (uc_251 E _) (Cn := RX7) (T := TX7) (N := 17) rfl hin7 4 (by decide) (by decide +kernel) rfl dX7_readWordsOf_119 ?_
                refine ur_eq (y := 0) hfx ?_
                refine lv_if_ne (tgt := 129) hx hb dX7_readWordsOf_122 (by decide) (fun z => absurd z (by decide)) (fun c_59 => ?_)
                refine lv_iload_n hx hb dX7_readWordsOf_125 rfl (lv_at hl 1 rfl) ?_
                refine lv_if_ne (tgt := 133) hx hb dX7_readWordsOf_126 (by decide) (fun c_60 => ?_) (fun c_60 => ?_)
                · skip
                  have c_60 : ¬ zz = 0 := fun z => c_60 ((nI_eq (a := zz) (b := 0) (by omega) (by omega)).mpr z)
                  refine lv_iconst (v := 0) hx hb dX7_readWordsOf_133 (by decide) ?_
                  refine ur_puti C h 251 (by decide) (uc_251 E _) (Cn := RX7) (T := TX7) (N := 17) rfl hin7 tyX7 tyX7_ok nmX7 4 (by decide) (by decide +kernel) rfl (by rfl) rfl (Nat.le_of_ble_eq_true rfl) (us_251_4 E _ _) dX7_readWordsOf_134 (fun M_61 H locs eM_61 h => ?_)
                  have hfM_61 : M_61.1 251 4 = 0 := by rw [eM_61]; rfl
                  have hpM_61 : M_61.1 251 3 = nI (tQ (M.1 253) ty (x)) := by rw [eM_61, u_set1, if_pos rfl, if_neg (by decide)]; exact hpx2
                  have hKM_61 : mJ Mi M_61 i := mJ_trans hKx (show mJ Mx M_61 i from by rw [eM_61]; exact mJ_f (Or.inr rfl))
                  have h253M_61 : M_61.1 253 = M.1 253 := (show M_61.1 253 = Mx.1 253 from by rw [eM_61]; rfl).trans (hKx.1.1 253 (by decide) (by decide) (by decide) |>.trans (hK0.1.1 253 (by decide) (by decide) (by decide)))
                  have htyM_61 : M_61.1 251 2 = nI ty := by rw [eM_61]; exact ((hKx.1.2.1 2 (by decide) (by decide)).trans ((hK0.1.2.1 2 (by decide) (by decide)).trans hty))
                  have hWn : (fW (tS (M.1 253) ty) (tWs (tS (M.1 253) ty) m i)).1 ≠ tWs (tS (M.1 253) ty) m i := by rw [hW]; exact fun q => by have := hzx.mpr q; omega
                  have hA2 : fWds (tS (M.1 253) ty) m 0 6 = fAfW (tS (M.1 253) ty) x (i + 1) (5 - i) := by rw [hA1, show 6 - i = 5 - i + 1 by omega, fWds_g hWn, hW]
                  have hYs : tWs (tS (M.1 253) ty) m (i + 1) = x + 1 := by show (fW (tS (M.1 253) ty) (tWs (tS (M.1 253) ty) m i)).1 + 1 = x + 1; rw [hW]
                  refine lv_aload_n hx hb dX7_readWordsOf_137 rfl (lv_at hl 3 rfl) ?_
                  refine ur_get C h 251 (by decide) (uc_251 E _) (Cn := RX7) (T := TX7) (N := 17) rfl hin7 4 (by decide) (by decide +kernel) rfl dX7_readWordsOf_138 ?_
                  refine ur_eq (y := nI 0) (by rw [eM_61, u_set1, if_pos rfl, if_pos rfl]; try rfl) ?_
                  refine ur_eq (y := 0) rfl ?_
                  refine lv_if_ne (tgt := 151) hx hb dX7_readWordsOf_141 (by decide) (fun z => absurd z (by decide)) (fun c_62 => ?_)
                  refine lv_aload_n hx hb dX7_readWordsOf_144 rfl (lv_at hl 3 rfl) ?_
                  refine ur_get C h 251 (by decide) (uc_251 E _) (Cn := RX7) (T := TX7) (N := 17) rfl hin7 6 (by decide) (by decide +kernel) rfl dX7_readWordsOf_145 ?_
                  refine lv_iload_n hx hb dX7_readWordsOf_148 rfl (lv_at hl 2 rfl) ?_
                  refine lv_iload_n hx hb dX7_readWordsOf_149 rfl (lv_at hl 1 rfl) ?_
                  refine ur_iast C h 255 (by decide) (uc_255 E) (i) (by omega) (by decide) dX7_readWordsOf_150 (fun M_63 H locs eM_63 h => ?_)
                  have hfM_63 : M_63.1 251 4 = 0 := by rw [eM_63, u_set_far (by decide)]; exact hfM_61
                  have hppM_63 : M_63.1 251 3 = nI (tQ (M.1 253) ty (x)) := by rw [eM_63, u_set_far (by decide)]; exact hpM_61
                  have hKM_63 : mJ Mi M_63 i := mJ_trans hKM_61 (show mJ M_61 M_63 i from by rw [eM_63]; exact mJ_r (Nat.le_refl _))
                  have h253M_63 : M_63.1 253 = M.1 253 := (show M_63.1 253 = M_61.1 253 from by rw [eM_63]; rfl).trans h253M_61
                  have htyM_63 : M_63.1 251 2 = nI ty := by rw [eM_63]; exact htyM_61
                  have hdN : ∀ t, t < i + 1 → M_63.1 255 t = nI (fW (tS (M.1 253) ty) (tWs (tS (M.1 253) ty) m t)).2 := fun t ht => by rcases Nat.lt_or_ge t i with zt | zt; (rw [hKM_63.2.2 t zt]; exact hdat t zt); (rw [show t = i by omega, eM_63, u_set1, if_pos rfl, if_pos rfl, hW])
                  refine lv_iinc (v := nI (i + 1)) (lv' := [(1, .int (nI (i + 1))), (3, .int (tS (M.1 253) ty (x))), (2, .int (nI zz)), (0, .ref (E.2.1 251))]) hx hb dX7_readWordsOf_151 hl (k := 2) rfl (nI_add i 1) (by decide) rfl (fun ls hl => ?_)
                  refine lv_goto (tgt := 2) hx hb dX7_readWordsOf_154 (by decide) ?_
                  refine lv_aload_n hx hb dX7_readWordsOf_2 rfl (lv_at hl 3 rfl) ?_
                  refine ur_get C h 251 (by decide) (uc_251 E _) (Cn := RX7) (T := TX7) (N := 17) rfl hin7 4 (by decide) (by decide +kernel) rfl dX7_readWordsOf_3 ?_
                  refine ur_eq (y := nI 0) (by rw [eM_63, u_set1, if_neg (by decide), eM_61, u_set1, if_pos rfl, if_pos rfl]; try rfl) ?_
                  refine ur_eq (y := 0) rfl ?_
                  refine lv_if_ne (tgt := 157) hx hb dX7_readWordsOf_6 (by decide) (fun z => absurd z (by decide)) (fun c_64 => ?_)
                  refine lv_iload_n hx hb dX7_readWordsOf_9 rfl (lv_at hl 0 rfl) ?_
                  refine lv_if_eq (tgt := 22) hx hb dX7_readWordsOf_10 (by decide) (fun c_65 => ?_) (fun c_65 => ?_)
                  · skip
                    have c_65 : (i + 1) = 0 := (nI_eq (a := (i + 1)) (b := 0) (by omega) (by omega)).mp c_65
                    exact ih22  (i + 1) 0 M_63 (by omega) (absurd c_65 (by omega)) (absurd c_65 (by omega)) (absurd c_65 (by omega)) (absurd c_65 (by omega)) (absurd c_65 (by omega)) (absurd c_65 (by omega)) (absurd c_65 (by omega)) (absurd c_65 (by omega)) (absurd c_65 (by omega)) _ _ _ h (lv_sub hl [0, 3] rfl)
                  · skip
                    have c_65 : ¬ (i + 1) = 0 := fun z => c_65 ((nI_eq (a := (i + 1)) (b := 0) (by omega) (by omega)).mpr z)
                    refine lv_aload_n hx hb dX7_readWordsOf_13 rfl (lv_at hl 3 rfl) ?_
                    refine ur_callVi C h (k := 251) (As := []) (rest := []) (k_X7_here l E hI M_63 ty htyM_63 hty90 (tQ (M.1 253) ty (x)) hppM_63 (tQ_le hNx)) (cwV 0 hts gX7_readWordsOf_X7_here rfl rfl rfl (by decide +kernel) ⟨Nat.le_of_ble_eq_true rfl, Nat.le_of_ble_eq_true rfl⟩) (by decide) (uc_251 E _) (T := TX7) (N := 17) rfl rfl hl.1 rfl (Nat.le_of_ble_eq_true rfl) dX7_readWordsOf_14 (fun r_66 M_67 H locs hw_67 h => ?_)
                    obtain ⟨eM_67, er_66⟩ := hw_67
                    rw [h253M_63] at eM_67 er_66
                    rw [tAt_of tQ_sk] at er_66
                    rw [show tSk (M.1 253) ty (tQ (M.1 253) ty (x)) = (tQ (M.1 253) ty (x)) from tQ_sk] at eM_67
                    have hfM_67 : M_67.1 251 4 = 0 := by rw [eM_67, u_set1, if_pos rfl, if_neg (by decide)]; exact hfM_63
                    have hpM_67 : M_67.1 251 3 = nI (tQ (M.1 253) ty (x)) := by rw [eM_67]; rfl
                    have h253M_67 : M_67.1 253 = M.1 253 := (show M_67.1 253 = M_63.1 253 from by rw [eM_67, u_set_far (by decide)]).trans h253M_63
                    have htyM_67 : M_67.1 251 2 = nI ty := by rw [eM_67, u_set1, if_pos rfl, if_neg (by decide)]; exact htyM_63
                    have hkM_67 : mJ M_63 M_67 i := by rw [eM_67]; exact mJ_f (by decide)
                    have hKM_67 : mJ Mi M_67 i := mJ_trans hKM_63 hkM_67
                    refine ur_eq (y := (tS (M.1 253) ty (x))) er_66 ?_
                    refine lv_bipush (v := 44) hx hb dX7_readWordsOf_17 (by decide) ?_
                    refine lv_icmp_ne (tgt := 157) hx hb dX7_readWordsOf_19 (by decide) (fun c_68 => ?_) (fun c_68 => ?_)
                    · skip
                      have hgn : ¬ 0 ≤ tIx 2 (tS (M.1 253) ty (x)) := fun zq => c_68 ((mS_sep hlet x).1.mp zq)
                      refine lv_iload_n hx hb dX7_readWordsOf_157 rfl (lv_at hl 0 rfl) ?_
                      exact ur_iret C h hr hlocks (⟨mFr_trans hK0.1 hKM_67.1, hKM_67.2.1.trans hK0.2, by unfold mWdsPost; rw [hA2, fAfW_n hgn, if_pos rfl]; exact ⟨hfM_67, hpM_67, hNx, rfl, fun t ht => by rw [eM_67, u_set_far (by decide)]; exact hdN t ht⟩⟩) dX7_readWordsOf_158
                    · skip
                      have hgc : 0 ≤ tIx 2 (tS (M.1 253) ty (x)) := (mS_sep hlet x).1.mpr c_68
                      exact ih22  (i + 1) (tQ (M.1 253) ty (x)) M_67 (by omega) (by omega) ⟨mFr_trans hK0.1 hKM_67.1, hKM_67.2.1.trans hK0.2⟩ hfM_67 hpM_67 (tQ_le hNx) (Or.inr ⟨by omega, by rw [hYs]; omega, by rw [hYs]; rfl⟩) (by rw [hYs]; exact t_lt (k := 2) (by decide) (by decide) hgc) (fun t ht => by rw [eM_67, u_set_far (by decide)]; exact hdN t ht) (by rw [hA2, hYs]; by_cases z6 : i + 1 < 6; (rw [if_pos z6, fAfW_c hgc (by omega), show 6 - (i + 1) = 5 - i by omega]); (rw [if_neg z6, show 5 - i = 0 by omega]; unfold fAfW; rw [if_pos hgc, if_pos rfl]; rfl)) _ _ _ h (lv_sub hl [0, 3] rfl)
                · skip
                  have c_60 : zz = 0 := (nI_eq (a := zz) (b := 0) (by omega) (by omega)).mp c_60
                  refine lv_iconst (v := 1) hx hb dX7_readWordsOf_129 (by decide) ?_
                  refine lv_goto (tgt := 134) hx hb dX7_readWordsOf_130 (by decide) ?_
                  refine ur_puti C h 251 (by decide) (uc_251 E _) (Cn := RX7) (T := TX7) (N := 17) rfl hin7 tyX7 tyX7_ok nmX7 4 (by decide) (by decide +kernel) rfl (by rfl) rfl (Nat.le_of_ble_eq_true rfl) (us_251_4 E _ _) dX7_readWordsOf_134 (fun M_69 H locs eM_69 h => ?_)
                  have hfM_69 : M_69.1 251 4 = 1 := by rw [eM_69]; rfl
                  have hpM_69 : M_69.1 251 3 = nI (tQ (M.1 253) ty (x)) := by rw [eM_69, u_set1, if_pos rfl, if_neg (by decide)]; exact hpx2
                  have hKM_69 : mJ Mi M_69 i := mJ_trans hKx (show mJ Mx M_69 i from by rw [eM_69]; exact mJ_f (Or.inr rfl))
                  have hxY : x = tWs (tS (M.1 253) ty) m i := hzx.mp (by omega)
                  have hpy : M_69.1 251 3 = nI (tQ (M.1 253) ty (tWs (tS (M.1 253) ty) m i)) := by rw [← hxY]; exact hpM_69
                  have hAf : fWds (tS (M.1 253) ty) m 0 6 = (false, tWs (tS (M.1 253) ty) m i, i) := by rw [hA1, show 6 - i = 5 - i + 1 by omega, fWds_b (by rw [hW]; exact fun q => q hxY)]
                  refine lv_aload_n hx hb dX7_readWordsOf_137 rfl (lv_at hl 3 rfl) ?_
                  refine ur_get C h 251 (by decide) (uc_251 E _) (Cn := RX7) (T := TX7) (N := 17) rfl hin7 4 (by decide) (by decide +kernel) rfl dX7_readWordsOf_138 ?_
                  refine ur_eq (y := nI 1) (by rw [eM_69, u_set1, if_pos rfl, if_pos rfl]; try rfl) ?_
                  refine ur_eq (y := 1) rfl ?_
                  refine lv_if_ne (tgt := 151) hx hb dX7_readWordsOf_141 (by decide) (fun c_70 => ?_) (fun z => absurd z (by decide))
                  refine lv_iinc (v := nI (i + 1)) (lv' := [(1, .int (nI (i + 1))), (3, .int (tS (M.1 253) ty (x))), (2, .int (nI zz)), (0, .ref (E.2.1 251))]) hx hb dX7_readWordsOf_151 hl (k := 2) rfl (nI_add i 1) (by decide) rfl (fun ls hl => ?_)
                  refine lv_goto (tgt := 2) hx hb dX7_readWordsOf_154 (by decide) ?_
                  refine lv_aload_n hx hb dX7_readWordsOf_2 rfl (lv_at hl 3 rfl) ?_
                  refine ur_get C h 251 (by decide) (uc_251 E _) (Cn := RX7) (T := TX7) (N := 17) rfl hin7 4 (by decide) (by decide +kernel) rfl dX7_readWordsOf_3 ?_
                  refine ur_eq (y := nI 1) (by rw [eM_69, u_set1, if_pos rfl, if_pos rfl]; try rfl) ?_
                  refine ur_eq (y := 1) rfl ?_
                  refine lv_if_ne (tgt := 157) hx hb dX7_readWordsOf_6 (by decide) (fun c_71 => ?_) (fun z => absurd z (by decide))
                  refine lv_iload_n hx hb dX7_readWordsOf_157 rfl (lv_at hl 0 rfl) ?_
                  exact ur_iret C h hr hlocks (⟨mFr_trans hK0.1 hKM_69.1, hKM_69.2.1.trans hK0.2, by unfold mWdsPost; rw [hAf, if_neg Bool.false_ne_true]; exact ⟨hfM_69, hpy⟩⟩) dX7_readWordsOf_158
              · skip
                have c_58 : 97 ≤ (tS (M.1 253) ty (x)).toInt ∧ (tS (M.1 253) ty (x)).toInt ≤ 102 := uz_t er_56 c_58
                have hab : 97 ≤ bb ∧ bb ≤ 102 := by have := c_58; rw [hbi] at this; omega
                obtain ⟨hft, hix0⟩ := m_fit hbb hab hz0 hz1 hz2 hlo6
                rw [← ebb] at hft hix0
                have hix := hix0
                have h2s : 2 ^ (bb - 97) ≤ 32 := (Nat.pow_le_pow_right (by decide) (by omega) : 2 ^ (bb - 97) ≤ 2 ^ 5)
                have hz64 : zz < 64 := Nat.lt_of_lt_of_le hz2 (Nat.pow_le_pow_right (by decide) hlo6 : 2 ^ lo ≤ 2 ^ 6)
                refine lv_iconst (v := 1) hx hb dX7_readWordsOf_80 (by decide) ?_
                refine lv_iload_n hx hb dX7_readWordsOf_81 rfl (lv_at hl 0 rfl) ?_
                refine ur_eq (y := nI bb) ebb ?_
                refine lv_bipush (v := 97) hx hb dX7_readWordsOf_82 (by decide) ?_
                refine lv_isub hx hb dX7_readWordsOf_84 ?_
                refine ur_eq (y := nI (bb - 97)) ((pk_sub (a := bb) (b := 97) (by omega)).trans (congrArg nI (by omega))) ?_
                refine lv_ishl hx hb dX7_readWordsOf_85 ?_
                refine ur_eq (y := nI (2 ^ (bb - 97))) (u_sh6 ⟨bb - 97, by omega⟩) ?_
                refine lv_iload_n hx hb dX7_readWordsOf_86 rfl (lv_at hl 1 rfl) ?_
                refine lv_icmp_le (tgt := 117) hx hb dX7_readWordsOf_87 (by decide) (fun c_72 => ?_) (fun c_72 => ?_)
                · skip
                  have c_72 : (2 ^ (bb - 97)) ≤ zz := (nI_leI (a := (2 ^ (bb - 97))) (b := zz) (by omega) (by omega)).mp c_72
                  have hno : ¬ nI lo ≤ tIx 5 (tS (M.1 253) ty (x)) := fun q => hft.mp q c_72
                  have hW : fW (tS (M.1 253) ty) (tWs (tS (M.1 253) ty) m i) = (x, zz) := hfw.trans (fWd_b hno)
                  refine lv_aload_n hx hb dX7_readWordsOf_117 rfl (lv_at hl 3 rfl) ?_
                  refine lv_aload_n hx hb dX7_readWordsOf_118 rfl (lv_at hl 3 rfl) ?_
                  refine ur_get C h 251 (by decide) (uc_251 E _) (Cn := RX7) (T := TX7) (N := 17) rfl hin7 4 (by decide) (by decide +kernel) rfl dX7_readWordsOf_119 ?_
                  refine ur_eq (y := 0) hfx ?_
                  refine lv_if_ne (tgt := 129) hx hb dX7_readWordsOf_122 (by decide) (fun z => absurd z (by decide)) (fun c_73 => ?_)
                  refine lv_iload_n hx hb dX7_readWordsOf_125 rfl (lv_at hl 1 rfl) ?_
                  refine lv_if_ne (tgt := 133) hx hb dX7_readWordsOf_126 (by decide) (fun c_74 => ?_) (fun c_74 => ?_)
                  · skip
                    have c_74 : ¬ zz = 0 := fun z => c_74 ((nI_eq (a := zz) (b := 0) (by omega) (by omega)).mpr z)
                    refine lv_iconst (v := 0) hx hb dX7_readWordsOf_133 (by decide) ?_
                    refine ur_puti C h 251 (by decide) (uc_251 E _) (Cn := RX7) (T := TX7) (N := 17) rfl hin7 tyX7 tyX7_ok nmX7 4 (by decide) (by decide +kernel) rfl (by rfl) rfl (Nat.le_of_ble_eq_true rfl) (us_251_4 E _ _) dX7_readWordsOf_134 (fun M_75 H locs eM_75 h => ?_)
                    have hfM_75 : M_75.1 251 4 = 0 := by rw [eM_75]; rfl
                    have hpM_75 : M_75.1 251 3 = nI (tQ (M.1 253) ty (x)) := by rw [eM_75, u_set1, if_pos rfl, if_neg (by decide)]; exact hpx2
                    have hKM_75 : mJ Mi M_75 i := mJ_trans hKx (show mJ Mx M_75 i from by rw [eM_75]; exact mJ_f (Or.inr rfl))
                    have h253M_75 : M_75.1 253 = M.1 253 := (show M_75.1 253 = Mx.1 253 from by rw [eM_75]; rfl).trans (hKx.1.1 253 (by decide) (by decide) (by decide) |>.trans (hK0.1.1 253 (by decide) (by decide) (by decide)))
                    have htyM_75 : M_75.1 251 2 = nI ty := by rw [eM_75]; exact ((hKx.1.2.1 2 (by decide) (by decide)).trans ((hK0.1.2.1 2 (by decide) (by decide)).trans hty))
                    have hWn : (fW (tS (M.1 253) ty) (tWs (tS (M.1 253) ty) m i)).1 ≠ tWs (tS (M.1 253) ty) m i := by rw [hW]; exact fun q => by have := hzx.mpr q; omega
                    have hA2 : fWds (tS (M.1 253) ty) m 0 6 = fAfW (tS (M.1 253) ty) x (i + 1) (5 - i) := by rw [hA1, show 6 - i = 5 - i + 1 by omega, fWds_g hWn, hW]
                    have hYs : tWs (tS (M.1 253) ty) m (i + 1) = x + 1 := by show (fW (tS (M.1 253) ty) (tWs (tS (M.1 253) ty) m i)).1 + 1 = x + 1; rw [hW]
                    refine lv_aload_n hx hb dX7_readWordsOf_137 rfl (lv_at hl 3 rfl) ?_
                    refine ur_get C h 251 (by decide) (uc_251 E _) (Cn := RX7) (T := TX7) (N := 17) rfl hin7 4 (by decide) (by decide +kernel) rfl dX7_readWordsOf_138 ?_
                    refine ur_eq (y := nI 0) (by rw [eM_75, u_set1, if_pos rfl, if_pos rfl]; try rfl) ?_
                    refine ur_eq (y := 0) rfl ?_
                    refine lv_if_ne (tgt := 151) hx hb dX7_readWordsOf_141 (by decide) (fun z => absurd z (by decide)) (fun c_76 => ?_)
                    refine lv_aload_n hx hb dX7_readWordsOf_144 rfl (lv_at hl 3 rfl) ?_
                    refine ur_get C h 251 (by decide) (uc_251 E _) (Cn := RX7) (T := TX7) (N := 17) rfl hin7 6 (by decide) (by decide +kernel) rfl dX7_readWordsOf_145 ?_
                    refine lv_iload_n hx hb dX7_readWordsOf_148 rfl (lv_at hl 2 rfl) ?_
                    refine lv_iload_n hx hb dX7_readWordsOf_149 rfl (lv_at hl 1 rfl) ?_
                    refine ur_iast C h 255 (by decide) (uc_255 E) (i) (by omega) (by decide) dX7_readWordsOf_150 (fun M_77 H locs eM_77 h => ?_)
                    have hfM_77 : M_77.1 251 4 = 0 := by rw [eM_77, u_set_far (by decide)]; exact hfM_75
                    have hppM_77 : M_77.1 251 3 = nI (tQ (M.1 253) ty (x)) := by rw [eM_77, u_set_far (by decide)]; exact hpM_75
                    have hKM_77 : mJ Mi M_77 i := mJ_trans hKM_75 (show mJ M_75 M_77 i from by rw [eM_77]; exact mJ_r (Nat.le_refl _))
                    have h253M_77 : M_77.1 253 = M.1 253 := (show M_77.1 253 = M_75.1 253 from by rw [eM_77]; rfl).trans h253M_75
                    have htyM_77 : M_77.1 251 2 = nI ty := by rw [eM_77]; exact htyM_75
                    have hdN : ∀ t, t < i + 1 → M_77.1 255 t = nI (fW (tS (M.1 253) ty) (tWs (tS (M.1 253) ty) m t)).2 := fun t ht => by rcases Nat.lt_or_ge t i with zt | zt; (rw [hKM_77.2.2 t zt]; exact hdat t zt); (rw [show t = i by omega, eM_77, u_set1, if_pos rfl, if_pos rfl, hW])
                    refine lv_iinc (v := nI (i + 1)) (lv' := [(1, .int (nI (i + 1))), (3, .int (tS (M.1 253) ty (x))), (2, .int (nI zz)), (0, .ref (E.2.1 251))]) hx hb dX7_readWordsOf_151 hl (k := 2) rfl (nI_add i 1) (by decide) rfl (fun ls hl => ?_)
                    refine lv_goto (tgt := 2) hx hb dX7_readWordsOf_154 (by decide) ?_
                    refine lv_aload_n hx hb dX7_readWordsOf_2 rfl (lv_at hl 3 rfl) ?_
                    refine ur_get C h 251 (by decide) (uc_251 E _) (Cn := RX7) (T := TX7) (N := 17) rfl hin7 4 (by decide) (by decide +kernel) rfl dX7_readWordsOf_3 ?_
                    refine ur_eq (y := nI 0) (by rw [eM_77, u_set1, if_neg (by decide), eM_75, u_set1, if_pos rfl, if_pos rfl]; try rfl) ?_
                    refine ur_eq (y := 0) rfl ?_
                    refine lv_if_ne (tgt := 157) hx hb dX7_readWordsOf_6 (by decide) (fun z => absurd z (by decide)) (fun c_78 => ?_)
                    refine lv_iload_n hx hb dX7_readWordsOf_9 rfl (lv_at hl 0 rfl) ?_
                    refine lv_if_eq (tgt := 22) hx hb dX7_readWordsOf_10 (by decide) (fun c_79 => ?_) (fun c_79 => ?_)
                    · skip
                      have c_79 : (i + 1) = 0 := (nI_eq (a := (i + 1)) (b := 0) (by omega) (by omega)).mp c_79
                      exact ih22  (i + 1) 0 M_77 (by omega) (absurd c_79 (by omega)) (absurd c_79 (by omega)) (absurd c_79 (by omega)) (absurd c_79 (by omega)) (absurd c_79 (by omega)) (absurd c_79 (by omega)) (absurd c_79 (by omega)) (absurd c_79 (by omega)) (absurd c_79 (by omega)) _ _ _ h (lv_sub hl [0, 3] rfl)
                    · skip
                      have c_79 : ¬ (i + 1) = 0 := fun z => c_79 ((nI_eq (a := (i + 1)) (b := 0) (by omega) (by omega)).mpr z)
                      refine lv_aload_n hx hb dX7_readWordsOf_13 rfl (lv_at hl 3 rfl) ?_
                      refine ur_callVi C h (k := 251) (As := []) (rest := []) (k_X7_here l E hI M_77 ty htyM_77 hty90 (tQ (M.1 253) ty (x)) hppM_77 (tQ_le hNx)) (cwV 0 hts gX7_readWordsOf_X7_here rfl rfl rfl (by decide +kernel) ⟨Nat.le_of_ble_eq_true rfl, Nat.le_of_ble_eq_true rfl⟩) (by decide) (uc_251 E _) (T := TX7) (N := 17) rfl rfl hl.1 rfl (Nat.le_of_ble_eq_true rfl) dX7_readWordsOf_14 (fun r_80 M_81 H locs hw_81 h => ?_)
                      obtain ⟨eM_81, er_80⟩ := hw_81
                      rw [h253M_77] at eM_81 er_80
                      rw [tAt_of tQ_sk] at er_80
                      rw [show tSk (M.1 253) ty (tQ (M.1 253) ty (x)) = (tQ (M.1 253) ty (x)) from tQ_sk] at eM_81
                      have hfM_81 : M_81.1 251 4 = 0 := by rw [eM_81, u_set1, if_pos rfl, if_neg (by decide)]; exact hfM_77
                      have hpM_81 : M_81.1 251 3 = nI (tQ (M.1 253) ty (x)) := by rw [eM_81]; rfl
                      have h253M_81 : M_81.1 253 = M.1 253 := (show M_81.1 253 = M_77.1 253 from by rw [eM_81, u_set_far (by decide)]).trans h253M_77
                      have htyM_81 : M_81.1 251 2 = nI ty := by rw [eM_81, u_set1, if_pos rfl, if_neg (by decide)]; exact htyM_77
                      have hkM_81 : mJ M_77 M_81 i := by rw [eM_81]; exact mJ_f (by decide)
                      have hKM_81 : mJ Mi M_81 i := mJ_trans hKM_77 hkM_81
                      refine ur_eq (y := (tS (M.1 253) ty (x))) er_80 ?_
                      refine lv_bipush (v := 44) hx hb dX7_readWordsOf_17 (by decide) ?_
                      refine lv_icmp_ne (tgt := 157) hx hb dX7_readWordsOf_19 (by decide) (fun c_82 => ?_) (fun c_82 => ?_)
                      · skip
                        have hgn : ¬ 0 ≤ tIx 2 (tS (M.1 253) ty (x)) := fun zq => c_82 ((mS_sep hlet x).1.mp zq)
                        refine lv_iload_n hx hb dX7_readWordsOf_157 rfl (lv_at hl 0 rfl) ?_
                        exact ur_iret C h hr hlocks (⟨mFr_trans hK0.1 hKM_81.1, hKM_81.2.1.trans hK0.2, by unfold mWdsPost; rw [hA2, fAfW_n hgn, if_pos rfl]; exact ⟨hfM_81, hpM_81, hNx, rfl, fun t ht => by rw [eM_81, u_set_far (by decide)]; exact hdN t ht⟩⟩) dX7_readWordsOf_158
                      · skip
                        have hgc : 0 ≤ tIx 2 (tS (M.1 253) ty (x)) := (mS_sep hlet x).1.mpr c_82
                        exact ih22  (i + 1) (tQ (M.1 253) ty (x)) M_81 (by omega) (by omega) ⟨mFr_trans hK0.1 hKM_81.1, hKM_81.2.1.trans hK0.2⟩ hfM_81 hpM_81 (tQ_le hNx) (Or.inr ⟨by omega, by rw [hYs]; omega, by rw [hYs]; rfl⟩) (by rw [hYs]; exact t_lt (k := 2) (by decide) (by decide) hgc) (fun t ht => by rw [eM_81, u_set_far (by decide)]; exact hdN t ht) (by rw [hA2, hYs]; by_cases z6 : i + 1 < 6; (rw [if_pos z6, fAfW_c hgc (by omega), show 6 - (i + 1) = 5 - i by omega]); (rw [if_neg z6, show 5 - i = 0 by omega]; unfold fAfW; rw [if_pos hgc, if_pos rfl]; rfl)) _ _ _ h (lv_sub hl [0, 3] rfl)
                  · skip
                    have c_74 : zz = 0 := (nI_eq (a := zz) (b := 0) (by omega) (by omega)).mp c_74
                    refine lv_iconst (v := 1) hx hb dX7_readWordsOf_129 (by decide) ?_
                    refine lv_goto (tgt := 134) hx hb dX7_readWordsOf_130 (by decide) ?_
                    refine ur_puti C h 251 (by decide) (uc_251 E _) (Cn := RX7) (T := TX7) (N := 17) rfl hin7 tyX7 tyX7_ok nmX7 4 (by decide) (by decide +kernel) rfl (by rfl) rfl (Nat.le_of_ble_eq_true rfl) (us_251_4 E _ _) dX7_readWordsOf_134 (fun M_83 H locs eM_83 h => ?_)
                    have hfM_83 : M_83.1 251 4 = 1 := by rw [eM_83]; rfl
                    have hpM_83 : M_83.1 251 3 = nI (tQ (M.1 253) ty (x)) := by rw [eM_83, u_set1, if_pos rfl, if_neg (by decide)]; exact hpx2
                    have hKM_83 : mJ Mi M_83 i := mJ_trans hKx (show mJ Mx M_83 i from by rw [eM_83]; exact mJ_f (Or.inr rfl))
                    have hxY : x = tWs (tS (M.1 253) ty) m i := hzx.mp (by omega)
                    have hpy : M_83.1 251 3 = nI (tQ (M.1 253) ty (tWs (tS (M.1 253) ty) m i)) := by rw [← hxY]; exact hpM_83
                    have hAf : fWds (tS (M.1 253) ty) m 0 6 = (false, tWs (tS (M.1 253) ty) m i, i) := by rw [hA1, show 6 - i = 5 - i + 1 by omega, fWds_b (by rw [hW]; exact fun q => q hxY)]
                    refine lv_aload_n hx hb dX7_readWordsOf_137 rfl (lv_at hl 3 rfl) ?_
                    refine ur_get C h 251 (by decide) (uc_251 E _) (Cn := RX7) (T := TX7) (N := 17) rfl hin7 4 (by decide) (by decide +kernel) rfl dX7_readWordsOf_138 ?_
                    refine ur_eq (y := nI 1) (by rw [eM_83, u_set1, if_pos rfl, if_pos rfl]; try rfl) ?_
                    refine ur_eq (y := 1) rfl ?_
                    refine lv_if_ne (tgt := 151) hx hb dX7_readWordsOf_141 (by decide) (fun c_84 => ?_) (fun z => absurd z (by decide))
                    refine lv_iinc (v := nI (i + 1)) (lv' := [(1, .int (nI (i + 1))), (3, .int (tS (M.1 253) ty (x))), (2, .int (nI zz)), (0, .ref (E.2.1 251))]) hx hb dX7_readWordsOf_151 hl (k := 2) rfl (nI_add i 1) (by decide) rfl (fun ls hl => ?_)
                    refine lv_goto (tgt := 2) hx hb dX7_readWordsOf_154 (by decide) ?_
                    refine lv_aload_n hx hb dX7_readWordsOf_2 rfl (lv_at hl 3 rfl) ?_
                    refine ur_get C h 251 (by decide) (uc_251 E _) (Cn := RX7) (T := TX7) (N := 17) rfl hin7 4 (by decide) (by decide +kernel) rfl dX7_readWordsOf_3 ?_
                    refine ur_eq (y := nI 1) (by rw [eM_83, u_set1, if_pos rfl, if_pos rfl]; try rfl) ?_
                    refine ur_eq (y := 1) rfl ?_
                    refine lv_if_ne (tgt := 157) hx hb dX7_readWordsOf_6 (by decide) (fun c_85 => ?_) (fun z => absurd z (by decide))
                    refine lv_iload_n hx hb dX7_readWordsOf_157 rfl (lv_at hl 0 rfl) ?_
                    exact ur_iret C h hr hlocks (⟨mFr_trans hK0.1 hKM_83.1, hKM_83.2.1.trans hK0.2, by unfold mWdsPost; rw [hAf, if_neg Bool.false_ne_true]; exact ⟨hfM_83, hpy⟩⟩) dX7_readWordsOf_158
                · skip
                  have c_72 : ¬ (2 ^ (bb - 97)) ≤ zz := fun z => c_72 ((nI_leI (a := (2 ^ (bb - 97))) (b := zz) (by omega) (by omega)).mpr z)
                  have hg5 := hft.mpr c_72
                  have hls : lo ≤ bb - 97 := (nI_le_iff (by omega) (by omega)).mp (by rw [← hix]; exact hg5)
                  have hrz := t_rise hls hz2 (show bb - 97 < 6 by omega)
                  have hN1 : (tN (M.1 253) ty (x + 1)) ≤ ty := t_lt (k := 5) (by decide) (t_ge1 (lo := lo) (by omega)) hg5
                  refine lv_iload_n hx hb dX7_readWordsOf_90 rfl (lv_at hl 1 rfl) ?_
                  refine lv_iconst (v := 1) hx hb dX7_readWordsOf_91 (by decide) ?_
                  refine lv_iload_n hx hb dX7_readWordsOf_92 rfl (lv_at hl 0 rfl) ?_
                  refine ur_eq (y := nI bb) ebb ?_
                  refine lv_bipush (v := 97) hx hb dX7_readWordsOf_93 (by decide) ?_
                  refine lv_isub hx hb dX7_readWordsOf_95 ?_
                  refine ur_eq (y := nI (bb - 97)) ((pk_sub (a := bb) (b := 97) (by omega)).trans (congrArg nI (by omega))) ?_
                  refine lv_ishl hx hb dX7_readWordsOf_96 ?_
                  refine lv_ior hx hb dX7_readWordsOf_97 ?_
                  refine ur_eq (y := nI (zz + 2 ^ (bb - 97))) hrz.1 ?_
                  refine lv_istore_n (lv' := [(2, .int (nI (zz + 2 ^ (bb - 97)))), (3, .int (tS (M.1 253) ty (x))), (1, .int (nI i)), (0, .ref (E.2.1 251))]) hx hb dX7_readWordsOf_98 rfl hl (by decide) rfl (fun ls hl => ?_)
                  refine lv_aload_n hx hb dX7_readWordsOf_99 rfl (lv_at hl 3 rfl) ?_
                  refine lv_dup hx hb dX7_readWordsOf_100 rfl ?_
                  refine ur_get C h 251 (by decide) (uc_251 E _) (Cn := RX7) (T := TX7) (N := 17) rfl hin7 3 (by decide) (by decide +kernel) rfl dX7_readWordsOf_101 ?_
                  refine ur_eq (y := nI (tQ (M.1 253) ty (x))) (hpx2) ?_
                  refine lv_iconst (v := 1) hx hb dX7_readWordsOf_104 (by decide) ?_
                  refine lv_iadd hx hb dX7_readWordsOf_105 ?_
                  refine ur_eq (y := nI ((tQ (M.1 253) ty (x)) + 1)) (nI_add (tQ (M.1 253) ty (x)) 1) ?_
                  refine ur_puti C h 251 (by decide) (uc_251 E _) (Cn := RX7) (T := TX7) (N := 17) rfl hin7 tyX7 tyX7_ok nmX7 3 (by decide) (by decide +kernel) rfl rfl rfl (Nat.le_of_ble_eq_true rfl) (us_251_3 E _ _) dX7_readWordsOf_106 (fun M_86 H locs eM_86 h => ?_)
                  have hfM_86 : M_86.1 251 4 = 0 := by rw [eM_86, u_set1, if_pos rfl, if_neg (by decide)]; exact hfx
                  have hpM_86 : M_86.1 251 3 = nI (tN (M.1 253) ty (x + 1)) := by rw [eM_86]; rfl
                  have h253M_86 : M_86.1 253 = M.1 253 := (show M_86.1 253 = Mx.1 253 from by rw [eM_86]; rfl).trans (hKx.1.1 253 (by decide) (by decide) (by decide) |>.trans (hK0.1.1 253 (by decide) (by decide) (by decide)))
                  have htyM_86 : M_86.1 251 2 = nI ty := by rw [eM_86]; exact ((hKx.1.2.1 2 (by decide) (by decide)).trans ((hK0.1.2.1 2 (by decide) (by decide)).trans hty))
                  have hKM_86 : mJ Mi M_86 i := mJ_trans hKx (show mJ Mx M_86 i from by rw [eM_86]; exact mJ_f (Or.inl rfl))
                  refine lv_aload_n hx hb dX7_readWordsOf_109 rfl (lv_at hl 3 rfl) ?_
                  refine ur_callVi C h (k := 251) (As := []) (rest := []) (k_X7_here l E hI M_86 ty htyM_86 hty90 (tN (M.1 253) ty (x + 1)) hpM_86 hN1) (cwV 0 hts gX7_readWordsOf_X7_here rfl rfl rfl (by decide +kernel) ⟨Nat.le_of_ble_eq_true rfl, Nat.le_of_ble_eq_true rfl⟩) (by decide) (uc_251 E _) (T := TX7) (N := 17) rfl rfl hl.1 rfl (Nat.le_of_ble_eq_true rfl) dX7_readWordsOf_110 (fun r_87 M_88 H locs hw_88 h => ?_)
                  obtain ⟨eM_88, er_87⟩ := hw_88
                  rw [h253M_86] at eM_88 er_87
                  rw [tAt_of rfl] at er_87
                  rw [show tSk (M.1 253) ty (tN (M.1 253) ty (x + 1)) = (tQ (M.1 253) ty (x + 1)) from rfl] at eM_88
                  have hfM_88 : M_88.1 251 4 = 0 := by rw [eM_88, u_set1, if_pos rfl, if_neg (by decide)]; exact hfM_86
                  have hpM_88 : M_88.1 251 3 = nI (tQ (M.1 253) ty (x + 1)) := by rw [eM_88]; rfl
                  have h253M_88 : M_88.1 253 = M.1 253 := (show M_88.1 253 = M_86.1 253 from by rw [eM_88, u_set_far (by decide)]).trans h253M_86
                  have htyM_88 : M_88.1 251 2 = nI ty := by rw [eM_88, u_set1, if_pos rfl, if_neg (by decide)]; exact htyM_86
                  have hkM_88 : mJ M_86 M_88 i := by rw [eM_88]; exact mJ_f (by decide)
                  have hKM_88 : mJ Mi M_88 i := mJ_trans hKM_86 hkM_88
                  refine ur_eq (y := (tS (M.1 253) ty (x + 1))) er_87 ?_
                  refine lv_istore_n (lv' := [(3, .int (tS (M.1 253) ty (x + 1))), (2, .int (nI (zz + 2 ^ (bb - 97)))), (1, .int (nI i)), (0, .ref (E.2.1 251))]) hx hb dX7_readWordsOf_113 rfl hl (by decide) rfl (fun ls hl => ?_)
                  refine lv_goto (tgt := 59) hx hb dX7_readWordsOf_114 (by decide) ?_
                  exact ih59  (kk + 1) (x + 1) (bb - 97 + 1) (zz + 2 ^ (bb - 97)) M_88 (by omega) (by omega) (by omega) (fun q => absurd q (by omega)) (fun _ => by rw [Nat.add_sub_cancel]; omega) hrz.2 ⟨fun q => absurd q (by have := Nat.two_pow_pos (bb - 97); omega), fun q => absurd q (by omega)⟩ (by omega) hKM_88 hfM_88 hpM_88 hN1 (by rw [hfw, show 6 - kk = 6 - (kk + 1) + 1 by omega, fWd_g hg5, hix, tn_nI (by omega)]) _ _ _ h (lv_sub hl [0, 1, 2, 3] rfl)
          exact lp59 _ 0 (tWs (tS (M.1 253) ty) m i) 0 0 M_54 (Nat.lt_succ_self _) (by omega) (by omega) (fun _ => rfl) (fun q => absurd q (by omega)) (by decide) ⟨fun _ => rfl, fun _ => rfl⟩ (Nat.le_refl _) hKM_54 hfM_54 hpM_54 hNi rfl _ _ _ h (lv_sub hl [0, 1, 2, 3] rfl)
  exact lp22 _ 0 p M (Nat.lt_succ_self _) (by omega) ⟨mFr_refl M, rfl⟩ hf hp hpt (Or.inl ⟨rfl, hpm⟩) hNm (fun t ht => absurd ht (Nat.not_lt_zero t)) rfl _ _ _ h (lv_sub hl [0, 1] rfl)
