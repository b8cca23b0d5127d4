set_option maxHeartbeats 1000000 in
set_option maxRecDepth 100000 in
theorem k_X2_weighLikes (l : Launch) (E : uE) (hI : uI E) (M : uM) (q : Nat) (hq : uSh q) (a kn : Nat) (hak : a + 2 * kn ≤ 24) (hwd : ∀ k, k < kn → tn (M.2.1 (q + 1) (a + 2 * k)).toInt32 < 6 ∧ (M.2.1 (q + 1) (a + 2 * k)).toInt32 = nI (tn (M.2.1 (q + 1) (a + 2 * k)).toInt32)) (n : Nat) (hn : M.1 1 0 = nI n) (hn6 : n ≤ 6) (ht : ¬ M.1 1 7 = 0) : Met l yX2_weighLikes wsX2_weighLikes ({ frames := 6, cells := 0, slots := 0, locals := 142 }) (va_Pc [.ref (E.2.1 235), .ref (E.2.1 q), .int (nI a), .int (nI kn)] (uB E M)) (va_Qv (fun u => ∃ LL, u = uRowL M 239 LL ∧ ∀ p, p < n → LL p = uLike (xLk M (M.2.1 (q + 1)) p a) kn) (uP E) (uA E)) 0 0 (uA E) := by
  have hin1 : ∀ w ∈ wsX10, w ∈ wsX2_weighLikes := by decide +kernel
  have hin2 : ∀ w ∈ wsX20, w ∈ wsX2_weighLikes := by decide +kernel
  have hin4 : ∀ w ∈ wsX40, w ∈ wsX2_weighLikes := by decide +kernel
  refine u_start (cc := cX2_weighLikes) (maxL := 8) (ret := none) hI (by decide) rfl (Nat.le_of_ble_eq_true rfl) ?_
  intro p_ e_ s_ m_ bl_ me_ c_ C hr hlocks h ls hl
  have hx := C.1.1
  have hb := C.1.2.1
  have hown : s_.vm.findClass RX2 = some m_.cls := C.1.2.2.2.1
  have hts := C.1.2.2.2.2
  have hl : lv_has ls 8 [(0, .ref (E.2.1 235)), (1, .ref (E.2.1 q)), (2, .int (nI a)), (3, .int (nI kn))] := hl
  refine lv_iconst (v := 0) hx hb dX2_weighLikes_0 (by decide) ?_
  refine lv_istore (lv' := [(4, .int 0), (0, .ref (E.2.1 235)), (1, .ref (E.2.1 q)), (2, .int (nI a)), (3, .int (nI kn))]) hx hb dX2_weighLikes_1 hl (by decide) rfl (fun ls hl => ?_)
  have lp3 : ∀ (n3 : Nat) (i : Nat) (Mi : uM) (LL : Nat → Int64), n - i < n3 → (i ≤ n) → (Mi = uRowL M 239 LL) → (∀ p, p < i → LL p = uLike (xLk M (M.2.1 (q + 1)) p a) kn) → ∀ (H : Heap) (locs : List Loc) (ls : Array Slot), uH E Mi s_ H locs → lv_has ls 8 [(4, .int (nI i)), (0, .ref (E.2.1 235)), (1, .ref (E.2.1 q)), (2, .int (nI a)), (3, .int (nI kn))] → W p_ l e_ ({ frames := 6, cells := 0, slots := 0, locals := 142 }) s_ m_ (List.toArray [.ref (E.2.1 235), .ref (E.2.1 q), .int (nI a), .int (nI kn)]) bl_ me_ c_ H locs 0 0 (MQ bl_ (va_Qv (fun u => ∃ LL, u = uRowL M 239 LL ∧ ∀ p, p < n → LL p = uLike (xLk M (M.2.1 (q + 1)) p a) kn) (uP E) (uA E)) (List.toArray [.ref (E.2.1 235), .ref (E.2.1 q), .int (nI a), .int (nI kn)]) s_ 0 0 (uA E)) (F0 m_ 3 ls []) := by
    intro n3
    induction n3 with
    | zero => intro i Mi LL hms; exact absurd hms (Nat.not_lt_zero _)
    | succ n3 ih3 =>
      intro i Mi LL hms3 hi hMi hLL H locs ls h hl
      refine lv_iload hx hb dX2_weighLikes_3 (lv_at hl 0 rfl) ?_
      refine lv_aload_n hx hb dX2_weighLikes_5 rfl (lv_at hl 1 rfl) ?_
      refine ur_get C h 235 (by decide) (uc_235 E _) (Cn := RX2) (T := TX2) (N := 5) rfl hin2 0 (by decide) (by decide +kernel) rfl dX2_weighLikes_6 ?_
      refine ur_get C h 1 (by decide) (uc_1 E _) (Cn := RX1) (T := TX1) (N := 11) rfl hin1 0 (by decide) (by decide +kernel) rfl dX2_weighLikes_9 ?_
      refine ur_eq (y := nI n) ((by rw [hMi]; exact hn)) ?_
      refine lv_icmp_ge (tgt := 117) hx hb dX2_weighLikes_12 (by decide) (fun c_1 => ?_) (fun c_1 => ?_)
      · skip
        have c_1 : n ≤ i := (nI_leI (a := n) (b := i) (by omega) (by omega)).mp c_1
        exact ur_vret C h hr hlocks (⟨LL, hMi, fun p hp => hLL p (by omega)⟩) dX2_weighLikes_117
      · skip
        have c_1 : ¬ n ≤ i := fun z => c_1 ((nI_leI (a := n) (b := i) (by omega) (by omega)).mpr z)
        refine lv_aload_n hx hb dX2_weighLikes_15 rfl (lv_at hl 1 rfl) ?_
        refine ur_get C h 235 (by decide) (uc_235 E _) (Cn := RX2) (T := TX2) (N := 5) rfl hin2 4 (by decide) (by decide +kernel) rfl dX2_weighLikes_16 ?_
        refine lv_iload hx hb dX2_weighLikes_19 (lv_at hl 0 rfl) ?_
        refine lv_ldc2 (v := 1000000) hx hb hown (hts (.constantLong RX2 126 1000000) (by decide +kernel)) dX2_weighLikes_21 ?_
        refine ur_last C h 239 (by decide) (uc_239 E) (i) (by omega) (by decide) dX2_weighLikes_24 (fun M_2 H locs eM_2 h => ?_)
        refine lv_iload_n hx hb dX2_weighLikes_25 rfl (lv_at hl 3 rfl) ?_
        refine lv_istore (lv' := [(5, .int (nI a)), (4, .int (nI i)), (0, .ref (E.2.1 235)), (1, .ref (E.2.1 q)), (2, .int (nI a)), (3, .int (nI kn))]) hx hb dX2_weighLikes_26 hl (by decide) rfl (fun ls hl => ?_)
        have lp28 : ∀ (n28 : Nat) (j : Nat) (Mj : uM) (Lj : Nat → Int64), kn - j < n28 → (j ≤ kn) → (Mj = uRowL M 239 Lj) → (∀ p, p < i → Lj p = uLike (xLk M (M.2.1 (q + 1)) p a) kn) → (Lj i = uLike (xLk M (M.2.1 (q + 1)) i a) j) → ∀ (H : Heap) (locs : List Loc) (ls : Array Slot), uH E Mj s_ H locs → lv_has ls 8 [(5, .int (nI (a + 2 * j))), (4, .int (nI i)), (0, .ref (E.2.1 235)), (1, .ref (E.2.1 q)), (2, .int (nI a)), (3, .int (nI kn))] → W p_ l e_ ({ frames := 6, cells := 0, slots := 0, locals := 142 }) s_ m_ (List.toArray [.ref (E.2.1 235), .ref (E.2.1 q), .int (nI a), .int (nI kn)]) bl_ me_ c_ H locs 0 0 (MQ bl_ (va_Qv (fun u => ∃ LL, u = uRowL M 239 LL ∧ ∀ p, p < n → LL p = uLike (xLk M (M.2.1 (q + 1)) p a) kn) (uP E) (uA E)) (List.toArray [.ref (E.2.1 235), .ref (E.2.1 q), .int (nI a), .int (nI kn)]) s_ 0 0 (uA E)) (F0 m_ 28 ls []) := by
          intro n28
          induction n28 with
          | zero => intro j Mj Lj hms; exact absurd hms (Nat.not_lt_zero _)
          | succ n28 ih28 =>
            intro j Mj Lj hms28 hj hMj hLj hcu H locs ls h hl
            refine lv_iload hx hb dX2_weighLikes_28 (lv_at hl 0 rfl) ?_
            refine lv_iload_n hx hb dX2_weighLikes_30 rfl (lv_at hl 4 rfl) ?_
            refine lv_iconst (v := 2) hx hb dX2_weighLikes_31 (by decide) ?_
            refine lv_iload_n hx hb dX2_weighLikes_32 rfl (lv_at hl 5 rfl) ?_
            refine lv_imul hx hb dX2_weighLikes_33 ?_
            refine ur_eq (y := nI (2 * kn)) (pk_mul 2 kn) ?_
            refine lv_iadd hx hb dX2_weighLikes_34 ?_
            refine ur_eq (y := nI (a + 2 * kn)) (nI_add a (2 * kn)) ?_
            refine lv_icmp_ge (tgt := 111) hx hb dX2_weighLikes_35 (by decide) (fun c_3 => ?_) (fun c_3 => ?_)
            · skip
              have c_3 : (a + 2 * kn) ≤ (a + 2 * j) := (nI_leI (a := (a + 2 * kn)) (b := (a + 2 * j)) (by omega) (by omega)).mp c_3
              refine lv_iinc (v := nI (i + 1)) (lv' := [(4, .int (nI (i + 1))), (5, .int (nI (a + 2 * j))), (0, .ref (E.2.1 235)), (1, .ref (E.2.1 q)), (2, .int (nI a)), (3, .int (nI kn))]) hx hb dX2_weighLikes_111 hl (k := 1) rfl (nI_add i 1) (by decide) rfl (fun ls hl => ?_)
              refine lv_goto (tgt := 3) hx hb dX2_weighLikes_114 (by decide) ?_
              exact ih3  (i + 1) Mj Lj (by omega) (by omega) hMj (fun p h => by rcases Nat.lt_or_ge p i with z | z; exact hLj p z; rw [show p = i by omega, hcu, show j = kn by omega]) _ _ _ h (lv_sub hl [0, 2, 3, 4, 5] rfl)
            · skip
              have c_3 : ¬ (a + 2 * kn) ≤ (a + 2 * j) := fun z => c_3 ((nI_leI (a := (a + 2 * kn)) (b := (a + 2 * j)) (by omega) (by omega)).mpr z)
              refine lv_aload_n hx hb dX2_weighLikes_38 rfl (lv_at hl 2 rfl) ?_
              refine ur_get C h 235 (by decide) (uc_235 E _) (Cn := RX2) (T := TX2) (N := 5) rfl hin2 0 (by decide) (by decide +kernel) rfl dX2_weighLikes_39 ?_
              refine lv_iload hx hb dX2_weighLikes_42 (lv_at hl 1 rfl) ?_
              refine lv_aload_n hx hb dX2_weighLikes_44 rfl (lv_at hl 3 rfl) ?_
              refine ur_get C h q (by have := uSh_lt hq; omega) (uc_s0 hq E _) (Cn := RX4) (T := TX4) (N := 4) rfl hin4 3 (by decide) (by decide +kernel) rfl dX2_weighLikes_45 ?_
              refine lv_iload hx hb dX2_weighLikes_48 (lv_at hl 0 rfl) ?_
              refine ur_lald C h (q + 1) (by have := uSh_lt hq; omega) (uc_s1 hq E _) (a + 2 * j) (by omega) (by decide) dX2_weighLikes_50 ?_
              refine lv_l2i (v := (Mj.2.1 (q + 1) (a + 2 * j)).toInt32) hx hb dX2_weighLikes_51 rfl ?_
              have hrd : Mj.2.1 (q + 1) = M.2.1 (q + 1) := by rw [hMj, u_row1L, if_neg (by have := uSh_lt hq; omega)]
              rw [hrd]
              obtain ⟨hw1, hw2⟩ := hwd j (by omega)
              refine ur_eq (y := nI (tn (M.2.1 (q + 1) (a + 2 * j)).toInt32)) hw2 ?_
              refine ur_callVi C h (k := 1) (As := [.int (nI i), .int (nI (tn (M.2.1 (q + 1) (a + 2 * j)).toInt32))]) (rest := []) (k_X1_passNow l E hI Mj i (tn (M.2.1 (q + 1) (a + 2 * j)).toInt32) (by omega) (by omega) (by rw [hMj]; exact ht)) (cwV 2 hts gX2_weighLikes_X1_passNow rfl rfl rfl (by decide +kernel) ⟨Nat.le_of_ble_eq_true rfl, Nat.le_of_ble_eq_true rfl⟩) (by decide) (uc_1 E _) (T := TX1) (N := 11) rfl rfl hl.1 rfl (Nat.le_of_ble_eq_true rfl) dX2_weighLikes_52 (fun r_4 M_5 H locs hw_5 h => ?_)
              obtain ⟨hu, er_4⟩ := hw_5
              subst hu
              refine ur_eq (y := xPassIn Mj i (tn (M.2.1 (q + 1) (a + 2 * j)).toInt32) (Mj.1 7 4)) er_4 ?_
              refine lv_topi (fun v_6 ev_6 => ?_)
              refine lv_istore (lv' := [(6, .int v_6), (5, .int (nI (a + 2 * j))), (4, .int (nI i)), (0, .ref (E.2.1 235)), (1, .ref (E.2.1 q)), (2, .int (nI a)), (3, .int (nI kn))]) hx hb dX2_weighLikes_55 hl (by decide) rfl (fun ls hl => ?_)
              refine lv_aload_n hx hb dX2_weighLikes_57 rfl (lv_at hl 4 rfl) ?_
              refine ur_get C h q (by have := uSh_lt hq; omega) (uc_s0 hq E _) (Cn := RX4) (T := TX4) (N := 4) rfl hin4 3 (by decide) (by decide +kernel) rfl dX2_weighLikes_58 ?_
              refine lv_iload hx hb dX2_weighLikes_61 (lv_at hl 1 rfl) ?_
              refine lv_iconst (v := 1) hx hb dX2_weighLikes_63 (by decide) ?_
              refine lv_iadd hx hb dX2_weighLikes_64 ?_
              refine ur_eq (y := nI (a + 2 * j + 1)) (nI_add (a + 2 * j) 1) ?_
              refine ur_lald C h (q + 1) (by have := uSh_lt hq; omega) (uc_s1 hq E _) (a + 2 * j + 1) (by omega) (by decide) dX2_weighLikes_65 ?_
              rw [hrd]
              refine lv_lconst (v := 1) hx hb dX2_weighLikes_66 (by decide) ?_
              refine W.lcmp hx hb dX2_weighLikes_67 ?_
              refine lv_if_ne (tgt := 76) hx hb dX2_weighLikes_68 (by decide) (fun c_7 => ?_) (fun c_7 => ?_)
              · skip
                have c_7 : ¬ (M.2.1 (q + 1) (a + 2 * j + 1)) = 1 := (ul_ne (M.2.1 (q + 1) (a + 2 * j + 1)) 1).mp c_7
                refine lv_ldc (v := 1000000) hx hb hown (hts (.constant RX2 34 1000000) (by decide +kernel)) dX2_weighLikes_76 ?_
                refine lv_iload hx hb dX2_weighLikes_78 (lv_at hl 0 rfl) ?_
                refine lv_isub hx hb dX2_weighLikes_80 ?_
                refine lv_istore (lv' := [(7, .int (1000000 - v_6)), (6, .int v_6), (5, .int (nI (a + 2 * j))), (4, .int (nI i)), (0, .ref (E.2.1 235)), (1, .ref (E.2.1 q)), (2, .int (nI a)), (3, .int (nI kn))]) hx hb dX2_weighLikes_81 hl (by decide) rfl (fun ls hl => ?_)
                refine lv_aload_n hx hb dX2_weighLikes_83 rfl (lv_at hl 4 rfl) ?_
                refine ur_get C h 235 (by decide) (uc_235 E _) (Cn := RX2) (T := TX2) (N := 5) rfl hin2 4 (by decide) (by decide +kernel) rfl dX2_weighLikes_84 ?_
                refine lv_iload hx hb dX2_weighLikes_87 (lv_at hl 3 rfl) ?_
                refine lv_aload_n hx hb dX2_weighLikes_89 rfl (lv_at hl 4 rfl) ?_
                refine ur_get C h 235 (by decide) (uc_235 E _) (Cn := RX2) (T := TX2) (N := 5) rfl hin2 4 (by decide) (by decide +kernel) rfl dX2_weighLikes_90 ?_
                refine lv_iload hx hb dX2_weighLikes_93 (lv_at hl 3 rfl) ?_
                refine ur_lald C h 239 (by decide) (uc_239 E _) (i) (by omega) (by decide) dX2_weighLikes_95 ?_
                refine lv_iload hx hb dX2_weighLikes_96 (lv_at hl 0 rfl) ?_
                refine lv_i2l (v := (1000000 - v_6).toInt64) hx hb dX2_weighLikes_98 rfl ?_
                refine lv_lmul hx hb dX2_weighLikes_99 ?_
                refine lv_ldc2 (v := 1000000) hx hb hown (hts (.constantLong RX2 126 1000000) (by decide +kernel)) dX2_weighLikes_100 ?_
                refine lv_ldiv hx hb dX2_weighLikes_103 (by decide) ?_
                refine ur_last C h 239 (by decide) (uc_239 E) (i) (by omega) (by decide) dX2_weighLikes_104 (fun M_8 H locs eM_8 h => ?_)
                refine lv_iinc (v := nI (a + 2 * (j + 1))) (lv' := [(5, .int (nI (a + 2 * (j + 1)))), (7, .int (1000000 - v_6)), (6, .int v_6), (4, .int (nI i)), (0, .ref (E.2.1 235)), (1, .ref (E.2.1 q)), (2, .int (nI a)), (3, .int (nI kn))]) hx hb dX2_weighLikes_105 hl (k := 2) rfl ((nI_add (a + 2 * j) 2).trans (congrArg nI (by omega))) (by decide) rfl (fun ls hl => ?_)
                refine lv_goto (tgt := 28) hx hb dX2_weighLikes_108 (by decide) ?_
                exact ih28  (j + 1) M_8 (vp_updL Lj i _) (by omega) (by omega) (by rw [eM_8, hMj, u_set_rowL]) (fun p h => by rw [show vp_updL Lj i _ p = Lj p from if_neg (by omega)]; exact hLj p h) (by subst ev_6; subst hMj; rw [show ∀ x, vp_updL Lj i x i = x from fun x => if_pos rfl, uLike, ← hcu, xLk, if_neg c_7]; rfl) _ _ _ h (lv_sub hl [0, 3, 4, 5, 6, 7] rfl)
              · skip
                have c_7 : (M.2.1 (q + 1) (a + 2 * j + 1)) = 1 := (ul_eq (M.2.1 (q + 1) (a + 2 * j + 1)) 1).mp c_7
                refine lv_iload hx hb dX2_weighLikes_71 (lv_at hl 0 rfl) ?_
                refine lv_goto (tgt := 81) hx hb dX2_weighLikes_73 (by decide) ?_
                refine lv_istore (lv' := [(7, .int v_6), (6, .int v_6), (5, .int (nI (a + 2 * j))), (4, .int (nI i)), (0, .ref (E.2.1 235)), (1, .ref (E.2.1 q)), (2, .int (nI a)), (3, .int (nI kn))]) hx hb dX2_weighLikes_81 hl (by decide) rfl (fun ls hl => ?_)
                refine lv_aload_n hx hb dX2_weighLikes_83 rfl (lv_at hl 4 rfl) ?_
                refine ur_get C h 235 (by decide) (uc_235 E _) (Cn := RX2) (T := TX2) (N := 5) rfl hin2 4 (by decide) (by decide +kernel) rfl dX2_weighLikes_84 ?_
                refine lv_iload hx hb dX2_weighLikes_87 (lv_at hl 3 rfl) ?_
                refine lv_aload_n hx hb dX2_weighLikes_89 rfl (lv_at hl 4 rfl) ?_
                refine ur_get C h 235 (by decide) (uc_235 E _) (Cn := RX2) (T := TX2) (N := 5) rfl hin2 4 (by decide) (by decide +kernel) rfl dX2_weighLikes_90 ?_
                refine lv_iload hx hb dX2_weighLikes_93 (lv_at hl 3 rfl) ?_
                refine ur_lald C h 239 (by decide) (uc_239 E _) (i) (by omega) (by decide) dX2_weighLikes_95 ?_
                refine lv_iload hx hb dX2_weighLikes_96 (lv_at hl 0 rfl) ?_
                refine lv_i2l (v := v_6.toInt64) hx hb dX2_weighLikes_98 rfl ?_
                refine lv_lmul hx hb dX2_weighLikes_99 ?_
                refine lv_ldc2 (v := 1000000) hx hb hown (hts (.constantLong RX2 126 1000000) (by decide +kernel)) dX2_weighLikes_100 ?_
                refine lv_ldiv hx hb dX2_weighLikes_103 (by decide) ?_
                refine ur_last C h 239 (by decide) (uc_239 E) (i) (by omega) (by decide) dX2_weighLikes_104 (fun M_9 H locs eM_9 h => ?_)
                refine lv_iinc (v := nI (a + 2 * (j + 1))) (lv' := [(5, .int (nI (a + 2 * (j + 1)))), (7, .int v_6), (6, .int v_6), (4, .int (nI i)), (0, .ref (E.2.1 235)), (1, .ref (E.2.1 q)), (2, .int (nI a)), (3, .int (nI kn))]) hx hb dX2_weighLikes_105 hl (k := 2) rfl ((nI_add (a + 2 * j) 2).trans (congrArg nI (by omega))) (by decide) rfl (fun ls hl => ?_)
                refine lv_goto (tgt := 28) hx hb dX2_weighLikes_108 (by decide) ?_
                exact ih28  (j + 1) M_9 (vp_updL Lj i _) (by omega) (by omega) (by rw [eM_9, hMj, u_set_rowL]) (fun p h => by rw [show vp_updL Lj i _ p = Lj p from if_neg (by omega)]; exact hLj p h) (by subst ev_6; subst hMj; rw [show ∀ x, vp_updL Lj i x i = x from fun x => if_pos rfl, uLike, ← hcu, xLk, if_pos c_7]; rfl) _ _ _ h (lv_sub hl [0, 3, 4, 5, 6, 7] rfl)
        exact lp28 _ 0 M_2 (vp_updL LL i 1000000) (Nat.lt_succ_self _) (by omega) (by rw [eM_2, hMi, u_set_rowL]) (fun p h => by rw [show vp_updL LL i 1000000 p = LL p from if_neg (by omega)]; exact hLL p h) (show vp_updL LL i 1000000 i = _ from if_pos rfl) _ _ _ h (lv_sub hl [0, 1, 2, 3, 4, 5] rfl)
  exact lp3 _ 0 M (M.2.1 239) (Nat.lt_succ_self _) (by omega) (u_row_selfL M 239).symm (fun p h => absurd h (Nat.not_lt_zero p)) _ _ _ h (lv_sub hl [0, 1, 2, 3, 4] rfl)
set_option maxHeartbeats 1000000 in
set_option maxRecDepth 100000 in
theorem k_X2_likeliest (l : Launch) (E : uE) (hI : uI E) (M : uM) (n : Nat) (hn : M.1 1 0 = nI n) (hn6 : n ≤ 6) : Met l yX2_likeliest wsX2_likeliest ({ frames := 0, cells := 0, slots := 0, locals := 0 }) (va_Pc [.ref (E.2.1 235)] (uB E M)) (va_Qi (fun r u => M = u ∧ r = pb n (xBst (M.2.1 239) n)) (uP E) (uA E)) 0 0 (uA E) := by
  have hin1 : ∀ w ∈ wsX10, w ∈ wsX2_likeliest := by decide +kernel
  have hin2 : ∀ w ∈ wsX20, w ∈ wsX2_likeliest := by decide +kernel
  refine u_start (cc := cX2_likeliest) (maxL := 3) (ret := (some .int)) hI (by decide) rfl (Nat.le_of_ble_eq_true rfl) ?_
  intro p_ e_ s_ m_ bl_ me_ c_ C hr hlocks h ls hl
  have hx := C.1.1
  have hb := C.1.2.1
  have hown : s_.vm.findClass RX2 = some m_.cls := C.1.2.2.2.1
  have hts := C.1.2.2.2.2
  have hl : lv_has ls 3 [(0, .ref (E.2.1 235))] := hl
  refine lv_bipush (v := (-4)) hx hb dX2_likeliest_0 (by decide) ?_
  refine lv_istore_n (lv' := [(1, .int (-4)), (0, .ref (E.2.1 235))]) hx hb dX2_likeliest_2 rfl hl (by decide) rfl (fun ls hl => ?_)
  refine lv_iconst (v := 0) hx hb dX2_likeliest_3 (by decide) ?_
  refine lv_istore_n (lv' := [(2, .int 0), (1, .int (-4)), (0, .ref (E.2.1 235))]) hx hb dX2_likeliest_4 rfl hl (by decide) rfl (fun ls hl => ?_)
  have lp5 : ∀ (n5 : Nat) (i b0 : Nat), n - i < n5 → (i ≤ n) → (b0 < 6) → (b0 = xBst (M.2.1 239) i) → ∀ (H : Heap) (locs : List Loc) (ls : Array Slot), uH E M s_ H locs → lv_has ls 3 [(2, .int (nI i)), (1, .int (pb i b0)), (0, .ref (E.2.1 235))] → W p_ l e_ ({ frames := 0, cells := 0, slots := 0, locals := 0 }) s_ m_ (List.toArray [.ref (E.2.1 235)]) bl_ me_ c_ H locs 0 0 (MQ bl_ (va_Qi (fun r u => M = u ∧ r = pb n (xBst (M.2.1 239) n)) (uP E) (uA E)) (List.toArray [.ref (E.2.1 235)]) s_ 0 0 (uA E)) (F0 m_ 5 ls []) := by
    intro n5
    induction n5 with
    | zero => intro i b0 hms; exact absurd hms (Nat.not_lt_zero _)
    | succ n5 ih5 =>
      intro i b0 hms5 hi hb0 hbb H locs ls h hl
      refine lv_iload_n hx hb dX2_likeliest_5 rfl (lv_at hl 0 rfl) ?_
      refine lv_aload_n hx hb dX2_likeliest_6 rfl (lv_at hl 2 rfl) ?_
      refine ur_get C h 235 (by decide) (uc_235 E _) (Cn := RX2) (T := TX2) (N := 5) rfl hin2 0 (by decide) (by decide +kernel) rfl dX2_likeliest_7 ?_
      refine ur_get C h 1 (by decide) (uc_1 E _) (Cn := RX1) (T := TX1) (N := 11) rfl hin1 0 (by decide) (by decide +kernel) rfl dX2_likeliest_10 ?_
      refine ur_eq (y := nI n) (hn) ?_
      refine lv_icmp_ge (tgt := 46) hx hb dX2_likeliest_13 (by decide) (fun c_1 => ?_) (fun c_1 => ?_)
      · skip
        have c_1 : n ≤ i := (nI_leI (a := n) (b := i) (by omega) (by omega)).mp c_1
        refine lv_iload_n hx hb dX2_likeliest_46 rfl (lv_at hl 1 rfl) ?_
        exact ur_iret C h hr hlocks (⟨rfl, by rw [hbb, show i = n by omega]⟩) dX2_likeliest_47
      · skip
        have c_1 : ¬ n ≤ i := fun z => c_1 ((nI_leI (a := n) (b := i) (by omega) (by omega)).mpr z)
        refine lv_iload_n hx hb dX2_likeliest_16 rfl (lv_at hl 1 rfl) ?_
        refine lv_bipush (v := (-4)) hx hb dX2_likeliest_17 (by decide) ?_
        refine lv_icmp_eq (tgt := 38) hx hb dX2_likeliest_19 (by decide) (fun c_2 => ?_) (fun c_2 => ?_)
        · skip
          refine lv_iload_n hx hb dX2_likeliest_38 rfl (lv_at hl 0 rfl) ?_
          refine ur_eq (y := pb (i + 1) i) (if_neg (by omega)).symm ?_
          refine lv_istore_n (lv' := [(1, .int (pb (i + 1) i)), (2, .int (nI i)), (0, .ref (E.2.1 235))]) hx hb dX2_likeliest_39 rfl hl (by decide) rfl (fun ls hl => ?_)
          refine lv_iinc (v := nI (i + 1)) (lv' := [(2, .int (nI (i + 1))), (1, .int (pb (i + 1) i)), (0, .ref (E.2.1 235))]) hx hb dX2_likeliest_40 hl (k := 1) rfl (nI_add i 1) (by decide) rfl (fun ls hl => ?_)
          refine lv_goto (tgt := 5) hx hb dX2_likeliest_43 (by decide) ?_
          exact ih5  (i + 1) i (by omega) (by omega) (by omega) (by rw [xBst, if_pos ((pb_iff (by omega)).mp c_2)]; exact (pb_iff (by omega)).mp c_2) _ _ _ h (lv_sub hl [0, 1, 2] rfl)
        · skip
          have hi0 : ¬ i = 0 := fun z => c_2 ((pb_iff (by omega)).mpr z)
          refine lv_aload_n hx hb dX2_likeliest_22 rfl (lv_at hl 2 rfl) ?_
          refine ur_get C h 235 (by decide) (uc_235 E _) (Cn := RX2) (T := TX2) (N := 5) rfl hin2 4 (by decide) (by decide +kernel) rfl dX2_likeliest_23 ?_
          refine lv_iload_n hx hb dX2_likeliest_26 rfl (lv_at hl 0 rfl) ?_
          refine ur_lald C h 239 (by decide) (uc_239 E _) (i) (by omega) (by decide) dX2_likeliest_27 ?_
          refine lv_aload_n hx hb dX2_likeliest_28 rfl (lv_at hl 2 rfl) ?_
          refine ur_get C h 235 (by decide) (uc_235 E _) (Cn := RX2) (T := TX2) (N := 5) rfl hin2 4 (by decide) (by decide +kernel) rfl dX2_likeliest_29 ?_
          refine lv_iload_n hx hb dX2_likeliest_32 rfl (lv_at hl 1 rfl) ?_
          refine ur_eq (y := nI b0) (if_neg hi0) ?_
          refine ur_lald C h 239 (by decide) (uc_239 E _) (b0) (by omega) (by decide) dX2_likeliest_33 ?_
          refine W.lcmp hx hb dX2_likeliest_34 ?_
          refine lv_if_le (tgt := 40) hx hb dX2_likeliest_35 (by decide) (fun c_3 => ?_) (fun c_3 => ?_)
          · skip
            have c_3 : (M.2.1 239 i) ≤ (M.2.1 239 b0) := (ul_le (M.2.1 239 i) (M.2.1 239 b0)).mp c_3
            have hpb : pb i b0 = pb (i + 1) b0 := by unfold pb; rw [if_neg hi0, if_neg (by omega)]
            rw [hpb] at hl
            refine lv_iinc (v := nI (i + 1)) (lv' := [(2, .int (nI (i + 1))), (1, .int (pb (i + 1) b0)), (0, .ref (E.2.1 235))]) hx hb dX2_likeliest_40 hl (k := 0) rfl (nI_add i 1) (by decide) rfl (fun ls hl => ?_)
            refine lv_goto (tgt := 5) hx hb dX2_likeliest_43 (by decide) ?_
            exact ih5  (i + 1) b0 (by omega) (by omega) (by omega) (by rw [xBst, if_neg hi0, ← hbb, if_pos c_3]) _ _ _ h (lv_sub hl [0, 1, 2] rfl)
          · skip
            have c_3 : ¬ (M.2.1 239 i) ≤ (M.2.1 239 b0) := fun z => c_3 ((ul_le (M.2.1 239 i) (M.2.1 239 b0)).mpr z)
            refine lv_iload_n hx hb dX2_likeliest_38 rfl (lv_at hl 0 rfl) ?_
            refine ur_eq (y := pb (i + 1) i) (if_neg (by omega)).symm ?_
            refine lv_istore_n (lv' := [(1, .int (pb (i + 1) i)), (2, .int (nI i)), (0, .ref (E.2.1 235))]) hx hb dX2_likeliest_39 rfl hl (by decide) rfl (fun ls hl => ?_)
            refine lv_iinc (v := nI (i + 1)) (lv' := [(2, .int (nI (i + 1))), (1, .int (pb (i + 1) i)), (0, .ref (E.2.1 235))]) hx hb dX2_likeliest_40 hl (k := 1) rfl (nI_add i 1) (by decide) rfl (fun ls hl => ?_)
            refine lv_goto (tgt := 5) hx hb dX2_likeliest_43 (by decide) ?_
            exact ih5  (i + 1) i (by omega) (by omega) (by omega) (by rw [xBst, if_neg hi0, ← hbb, if_neg c_3]) _ _ _ h (lv_sub hl [0, 1, 2] rfl)
  exact lp5 _ 0 0 (Nat.lt_succ_self _) (by omega) (by omega) rfl _ _ _ h (lv_sub hl [0, 1, 2] rfl)
set_option maxHeartbeats 1000000 in
set_option maxRecDepth 100000 in
theorem k_X2_partFor (l : Launch) (E : uE) (hI : uI E) (M : uM) (p : Nat) (hp : p < 6) (n : Nat) (hn : M.1 1 0 = nI n) (hn6 : n ≤ 6) : Met l yX2_partFor wsX2_partFor ({ frames := 0, cells := 0, slots := 0, locals := 0 }) (va_Pc [.ref (E.2.1 235), .int (nI p)] (uB E M)) (va_Qi (fun r u => M = u ∧ r = if xSumL (M.2.1 239) n = 0 then 0 else (M.2.1 239 p * 1000000 / xSumL (M.2.1 239) n).toInt32) (uP E) (uA E)) 0 0 (uA E) := by
  have hin1 : ∀ w ∈ wsX10, w ∈ wsX2_partFor := by decide +kernel
  have hin2 : ∀ w ∈ wsX20, w ∈ wsX2_partFor := by decide +kernel
  refine u_start (cc := cX2_partFor) (maxL := 5) (ret := (some .int)) hI (by decide) rfl (Nat.le_of_ble_eq_true rfl) ?_
  intro p_ e_ s_ m_ bl_ me_ c_ C hr hlocks h ls hl
  have hx := C.1.1
  have hb := C.1.2.1
  have hown : s_.vm.findClass RX2 = some m_.cls := C.1.2.2.2.1
  have hts := C.1.2.2.2.2
  have hl : lv_has ls 5 [(0, .ref (E.2.1 235)), (1, .int (nI p))] := hl
  refine lv_lconst (v := 0) hx hb dX2_partFor_0 (by decide) ?_
  refine lv_lstore_n (lv' := [(2, .long 0), (0, .ref (E.2.1 235)), (1, .int (nI p))]) hx hb dX2_partFor_1 rfl hl (by decide) rfl (fun ls hl => ?_)
  refine lv_iconst (v := 0) hx hb dX2_partFor_2 (by decide) ?_
  refine lv_istore (lv' := [(4, .int 0), (2, .long 0), (0, .ref (E.2.1 235)), (1, .int (nI p))]) hx hb dX2_partFor_3 hl (by decide) rfl (fun ls hl => ?_)
  have lp5 : ∀ (n5 : Nat) (i : Nat) (v : Int64), n - i < n5 → (i ≤ n) → (v = xSumL (M.2.1 239) i) → ∀ (H : Heap) (locs : List Loc) (ls : Array Slot), uH E M s_ H locs → lv_has ls 5 [(4, .int (nI i)), (2, .long v), (0, .ref (E.2.1 235)), (1, .int (nI p))] → W p_ l e_ ({ frames := 0, cells := 0, slots := 0, locals := 0 }) s_ m_ (List.toArray [.ref (E.2.1 235), .int (nI p)]) bl_ me_ c_ H locs 0 0 (MQ bl_ (va_Qi (fun r u => M = u ∧ r = if xSumL (M.2.1 239) n = 0 then 0 else (M.2.1 239 p * 1000000 / xSumL (M.2.1 239) n).toInt32) (uP E) (uA E)) (List.toArray [.ref (E.2.1 235), .int (nI p)]) s_ 0 0 (uA E)) (F0 m_ 5 ls []) := by
    intro n5
    induction n5 with
    | zero => intro i v hms; exact absurd hms (Nat.not_lt_zero _)
    | succ n5 ih5 =>
      intro i v hms5 hi hv H locs ls h hl
      refine lv_iload hx hb dX2_partFor_5 (lv_at hl 0 rfl) ?_
      refine lv_aload_n hx hb dX2_partFor_7 rfl (lv_at hl 2 rfl) ?_
      refine ur_get C h 235 (by decide) (uc_235 E _) (Cn := RX2) (T := TX2) (N := 5) rfl hin2 0 (by decide) (by decide +kernel) rfl dX2_partFor_8 ?_
      refine ur_get C h 1 (by decide) (uc_1 E _) (Cn := RX1) (T := TX1) (N := 11) rfl hin1 0 (by decide) (by decide +kernel) rfl dX2_partFor_11 ?_
      refine ur_eq (y := nI n) (hn) ?_
      refine lv_icmp_ge (tgt := 33) hx hb dX2_partFor_14 (by decide) (fun c_1 => ?_) (fun c_1 => ?_)
      · skip
        have c_1 : n ≤ i := (nI_leI (a := n) (b := i) (by omega) (by omega)).mp c_1
        refine lv_lload_n hx hb dX2_partFor_33 rfl (lv_at hl 1 rfl) ?_
        refine lv_lconst (v := 0) hx hb dX2_partFor_34 (by decide) ?_
        refine W.lcmp hx hb dX2_partFor_35 ?_
        refine lv_if_ne (tgt := 43) hx hb dX2_partFor_36 (by decide) (fun c_2 => ?_) (fun c_2 => ?_)
        · skip
          have c_2 : ¬ v = 0 := (ul_ne v 0).mp c_2
          refine lv_aload_n hx hb dX2_partFor_43 rfl (lv_at hl 2 rfl) ?_
          refine ur_get C h 235 (by decide) (uc_235 E _) (Cn := RX2) (T := TX2) (N := 5) rfl hin2 4 (by decide) (by decide +kernel) rfl dX2_partFor_44 ?_
          refine lv_iload_n hx hb dX2_partFor_47 rfl (lv_at hl 3 rfl) ?_
          refine ur_lald C h 239 (by decide) (uc_239 E _) (p) (by omega) (by decide) dX2_partFor_48 ?_
          refine lv_ldc2 (v := 1000000) hx hb hown (hts (.constantLong RX2 126 1000000) (by decide +kernel)) dX2_partFor_49 ?_
          refine lv_lmul hx hb dX2_partFor_52 ?_
          refine lv_lload_n hx hb dX2_partFor_53 rfl (lv_at hl 1 rfl) ?_
          refine lv_ldiv hx hb dX2_partFor_54 (by assumption) ?_
          refine lv_l2i (v := (((M.2.1 239 p) * 1000000) / v).toInt32) hx hb dX2_partFor_55 rfl ?_
          exact ur_iret C h hr hlocks (⟨rfl, by rw [← show i = n by omega, ← hv, if_neg c_2]⟩) dX2_partFor_56
        · skip
          have c_2 : v = 0 := (ul_eq v 0).mp c_2
          refine lv_iconst (v := 0) hx hb dX2_partFor_39 (by decide) ?_
          refine lv_goto (tgt := 56) hx hb dX2_partFor_40 (by decide) ?_
          exact ur_iret C h hr hlocks (⟨rfl, by rw [← show i = n by omega, ← hv, if_pos c_2]⟩) dX2_partFor_56
      · skip
        have c_1 : ¬ n ≤ i := fun z => c_1 ((nI_leI (a := n) (b := i) (by omega) (by omega)).mpr z)
        refine lv_lload_n hx hb dX2_partFor_17 rfl (lv_at hl 1 rfl) ?_
        refine lv_aload_n hx hb dX2_partFor_18 rfl (lv_at hl 2 rfl) ?_
        refine ur_get C h 235 (by decide) (uc_235 E _) (Cn := RX2) (T := TX2) (N := 5) rfl hin2 4 (by decide) (by decide +kernel) rfl dX2_partFor_19 ?_
        refine lv_iload hx hb dX2_partFor_22 (lv_at hl 0 rfl) ?_
        refine ur_lald C h 239 (by decide) (uc_239 E _) (i) (by omega) (by decide) dX2_partFor_24 ?_
        refine lv_ladd hx hb dX2_partFor_25 ?_
        refine lv_lstore_n (lv' := [(2, .long (v + (M.2.1 239 i))), (4, .int (nI i)), (0, .ref (E.2.1 235)), (1, .int (nI p))]) hx hb dX2_partFor_26 rfl hl (by decide) rfl (fun ls hl => ?_)
        refine lv_iinc (v := nI (i + 1)) (lv' := [(4, .int (nI (i + 1))), (2, .long (v + (M.2.1 239 i))), (0, .ref (E.2.1 235)), (1, .int (nI p))]) hx hb dX2_partFor_27 hl (k := 1) rfl (nI_add i 1) (by decide) rfl (fun ls hl => ?_)
        refine lv_goto (tgt := 5) hx hb dX2_partFor_30 (by decide) ?_
        exact ih5  (i + 1) (v + (M.2.1 239 i)) (by omega) (by omega) (by first | rfl | (rw [xSumL, ← hv])) _ _ _ h (lv_sub hl [0, 1, 2, 3] rfl)
  exact lp5 _ 0 0 (Nat.lt_succ_self _) (by omega) (by first | rfl | (rw [xSumL, ← hv])) _ _ _ h (lv_sub hl [0, 1, 2, 3] rfl)
set_option maxHeartbeats 1000000 in
set_option maxRecDepth 100000 in
theorem k_X6_speaker (l : Launch) (E : uE) (hI : uI E) (M : uM) (x1 x2 x3 : Int32) (n : Nat) (hn : M.1 1 0 = nI n) (hn6 : n ≤ 6) : Met l yX6_speaker wsX6_speaker ({ frames := 1, cells := 0, slots := 0, locals := 23 }) (va_Pc [.ref (E.2.1 0), .int x1, .int x2, .int x3] (uB E M)) (va_Qi (fun r u => if (0 ≤ x1.toInt ∧ x1.toInt ≤ 4) ∧ (0 ≤ x2.toInt ∧ x2.toInt ≤ 1) ∧ (0 ≤ x3.toInt ∧ x3.toInt ≤ 9) then (if n < 6 then u = xSpk M n x1 x2 x3 ∧ r = nI n else r = -3 ∧ M = u) else r = -1 ∧ M = u) (uP E) (uA E)) 0 0 (uA E) := by
  have hin1 : ∀ w ∈ wsX10, w ∈ wsX6_speaker := by decide +kernel
  have hin6 : ∀ w ∈ wsX60, w ∈ wsX6_speaker := by decide +kernel
  refine u_start (cc := cX6_speaker) (maxL := 6) (ret := (some .int)) hI (by decide) rfl (Nat.le_of_ble_eq_true rfl) ?_
  intro p_ e_ s_ m_ bl_ me_ c_ C hr hlocks h ls hl
  have hx := C.1.1
  have hb := C.1.2.1
  have hown : s_.vm.findClass RX6 = some m_.cls := C.1.2.2.2.1
  have hts := C.1.2.2.2.2
  have hl : lv_has ls 6 [(0, .ref (E.2.1 0)), (1, .int x1), (2, .int x2), (3, .int x3)] := hl
  refine lv_iload_n hx hb dX6_speaker_0 rfl (lv_at hl 1 rfl) ?_
  refine lv_iconst (v := 0) hx hb dX6_speaker_1 (by decide) ?_
  refine lv_iconst (v := 4) hx hb dX6_speaker_2 (by decide) ?_
  refine ur_callSi C h (As := [.int x1, .int 0, .int 4]) (rest := []) (k_X6_isIn l E hI M x1 0 4) (va_cwS 3 hts gX6_speaker_X6_isIn rfl rfl rfl (by decide +kernel) ⟨Nat.le_of_ble_eq_true rfl, Nat.le_of_ble_eq_true rfl⟩) rfl hl.1 rfl (Nat.le_of_ble_eq_true rfl) dX6_speaker_3 (fun r_1 M_2 H locs hw_2 h => ?_)
  obtain ⟨hu, er_1⟩ := hw_2
  subst hu
  have er_1 : r_1 = if 0 ≤ x1.toInt ∧ x1.toInt ≤ 4 then 1 else 0 := u_in32 (x := x1.toInt) rfl rfl rfl er_1
  refine lv_if_eq (tgt := 28) hx hb dX6_speaker_6 (by decide) (fun c_3 => ?_) (fun c_3 => ?_)
  · skip
    have c_3 : ¬ (0 ≤ x1.toInt ∧ x1.toInt ≤ 4) := uz_f er_1 c_3
    refine lv_iconst (v := (-1)) hx hb dX6_speaker_28 (by decide) ?_
    exact ur_iret C h hr hlocks (by rw [if_neg (by omega)]; exact ⟨rfl, rfl⟩) dX6_speaker_29
  · skip
    have c_3 : 0 ≤ x1.toInt ∧ x1.toInt ≤ 4 := uz_t er_1 c_3
    refine lv_iload_n hx hb dX6_speaker_9 rfl (lv_at hl 2 rfl) ?_
    refine lv_iconst (v := 0) hx hb dX6_speaker_10 (by decide) ?_
    refine lv_iconst (v := 1) hx hb dX6_speaker_11 (by decide) ?_
    refine ur_callSi C h (As := [.int x2, .int 0, .int 1]) (rest := []) (k_X6_isIn l E hI M x2 0 1) (va_cwS 3 hts gX6_speaker_X6_isIn rfl rfl rfl (by decide +kernel) ⟨Nat.le_of_ble_eq_true rfl, Nat.le_of_ble_eq_true rfl⟩) rfl hl.1 rfl (Nat.le_of_ble_eq_true rfl) dX6_speaker_12 (fun r_4 M_5 H locs hw_5 h => ?_)
    obtain ⟨hu, er_4⟩ := hw_5
    subst hu
    have er_4 : r_4 = if 0 ≤ x2.toInt ∧ x2.toInt ≤ 1 then 1 else 0 := u_in32 (x := x2.toInt) rfl rfl rfl er_4
    refine lv_if_eq (tgt := 28) hx hb dX6_speaker_15 (by decide) (fun c_6 => ?_) (fun c_6 => ?_)
    · skip
      have c_6 : ¬ (0 ≤ x2.toInt ∧ x2.toInt ≤ 1) := uz_f er_4 c_6
      refine lv_iconst (v := (-1)) hx hb dX6_speaker_28 (by decide) ?_
      exact ur_iret C h hr hlocks (by rw [if_neg (by omega)]; exact ⟨rfl, rfl⟩) dX6_speaker_29
    · skip
      have c_6 : 0 ≤ x2.toInt ∧ x2.toInt ≤ 1 := uz_t er_4 c_6
      refine lv_iload_n hx hb dX6_speaker_18 rfl (lv_at hl 3 rfl) ?_
      refine lv_iconst (v := 0) hx hb dX6_speaker_19 (by decide) ?_
      refine lv_bipush (v := 9) hx hb dX6_speaker_20 (by decide) ?_
      refine ur_callSi C h (As := [.int x3, .int 0, .int 9]) (rest := []) (k_X6_isIn l E hI M x3 0 9) (va_cwS 3 hts gX6_speaker_X6_isIn rfl rfl rfl (by decide +kernel) ⟨Nat.le_of_ble_eq_true rfl, Nat.le_of_ble_eq_true rfl⟩) rfl hl.1 rfl (Nat.le_of_ble_eq_true rfl) dX6_speaker_22 (fun r_7 M_8 H locs hw_8 h => ?_)
      obtain ⟨hu, er_7⟩ := hw_8
      subst hu
      have er_7 : r_7 = if 0 ≤ x3.toInt ∧ x3.toInt ≤ 9 then 1 else 0 := u_in32 (x := x3.toInt) rfl rfl rfl er_7
      refine lv_if_ne (tgt := 30) hx hb dX6_speaker_25 (by decide) (fun c_9 => ?_) (fun c_9 => ?_)
      · skip
        have c_9 : 0 ≤ x3.toInt ∧ x3.toInt ≤ 9 := uz_t er_7 c_9
        refine lv_aload_n hx hb dX6_speaker_30 rfl (lv_at hl 0 rfl) ?_
        refine ur_get C h 0 (by decide) (uc_0 E _) (Cn := RX6) (T := TX6) (N := 6) rfl hin6 0 (by decide) (by decide +kernel) rfl dX6_speaker_31 ?_
        refine ur_get C h 1 (by decide) (uc_1 E _) (Cn := RX1) (T := TX1) (N := 11) rfl hin1 0 (by decide) (by decide +kernel) rfl dX6_speaker_34 ?_
        refine ur_eq (y := nI n) (hn) ?_
        refine lv_bipush (v := 6) hx hb dX6_speaker_37 (by decide) ?_
        refine lv_icmp_lt (tgt := 45) hx hb dX6_speaker_39 (by decide) (fun c_10 => ?_) (fun c_10 => ?_)
        · skip
          have c_10 : n < 6 := (nI_ltI (a := n) (b := 6) (by omega) (by omega)).mp c_10
          refine lv_aload_n hx hb dX6_speaker_45 rfl (lv_at hl 0 rfl) ?_
          refine ur_get C h 0 (by decide) (uc_0 E _) (Cn := RX6) (T := TX6) (N := 6) rfl hin6 0 (by decide) (by decide +kernel) rfl dX6_speaker_46 ?_
          refine lv_iload_n hx hb dX6_speaker_49 rfl (lv_at hl 1 rfl) ?_
          refine lv_iload_n hx hb dX6_speaker_50 rfl (lv_at hl 2 rfl) ?_
          refine ur_callVi C h (k := 1) (As := [.int x1, .int x2]) (rest := []) (k_X1_addSpeaker_1 l E hI M x1 x2 n (hn) (by omega)) (cwV 2 hts gX6_speaker_X1_addSpeaker rfl rfl rfl (by decide +kernel) ⟨Nat.le_of_ble_eq_true rfl, Nat.le_of_ble_eq_true rfl⟩) (by decide) (uc_1 E _) (T := TX1) (N := 11) rfl rfl hl.1 rfl (Nat.le_of_ble_eq_true rfl) dX6_speaker_51 (fun r_11 M_12 H locs hw_12 h => ?_)
          obtain ⟨eM_12, er_11⟩ := hw_12
          refine ur_eq (y := nI n) er_11 ?_
          refine lv_istore (lv' := [(4, .int (nI n)), (0, .ref (E.2.1 0)), (1, .int x1), (2, .int x2), (3, .int x3)]) hx hb dX6_speaker_54 hl (by decide) rfl (fun ls hl => ?_)
          refine lv_iconst (v := 0) hx hb dX6_speaker_56 (by decide) ?_
          refine lv_istore (lv' := [(5, .int 0), (4, .int (nI n)), (0, .ref (E.2.1 0)), (1, .int x1), (2, .int x2), (3, .int x3)]) hx hb dX6_speaker_57 hl (by decide) rfl (fun ls hl => ?_)
          have lp59 : ∀ (n59 : Nat) (i : Nat) (Mi : uM), 6 - i < n59 → (i ≤ 6) → (Mi = uFill (xAddS M 1 n x1 x2) 4 (n * 6) x3 i) → ∀ (H : Heap) (locs : List Loc) (ls : Array Slot), uH E Mi s_ H locs → lv_has ls 6 [(5, .int (nI i)), (4, .int (nI n)), (0, .ref (E.2.1 0)), (1, .int x1), (2, .int x2), (3, .int x3)] → W p_ l e_ ({ frames := 1, cells := 0, slots := 0, locals := 23 }) s_ m_ (List.toArray [.ref (E.2.1 0), .int x1, .int x2, .int x3]) bl_ me_ c_ H locs 0 0 (MQ bl_ (va_Qi (fun r u => if (0 ≤ x1.toInt ∧ x1.toInt ≤ 4) ∧ (0 ≤ x2.toInt ∧ x2.toInt ≤ 1) ∧ (0 ≤ x3.toInt ∧ x3.toInt ≤ 9) then (if n < 6 then u = xSpk M n x1 x2 x3 ∧ r = nI n else r = -3 ∧ M = u) else r = -1 ∧ M = u) (uP E) (uA E)) (List.toArray [.ref (E.2.1 0), .int x1, .int x2, .int x3]) s_ 0 0 (uA E)) (F0 m_ 59 ls []) := by
            intro n59
            induction n59 with
            | zero => intro i Mi hms; exact absurd hms (Nat.not_lt_zero _)
            | succ n59 ih59 =>
              intro i Mi hms59 hi hMi H locs ls h hl
              refine lv_iload hx hb dX6_speaker_59 (lv_at hl 0 rfl) ?_
              refine lv_bipush (v := 6) hx hb dX6_speaker_61 (by decide) ?_
              refine lv_icmp_ge (tgt := 89) hx hb dX6_speaker_63 (by decide) (fun c_13 => ?_) (fun c_13 => ?_)
              · skip
                have c_13 : 6 ≤ i := (nI_leI (a := 6) (b := i) (by omega) (by omega)).mp c_13
                refine lv_aload_n hx hb dX6_speaker_89 rfl (lv_at hl 2 rfl) ?_
                refine ur_get C h 0 (by decide) (uc_0 E _) (Cn := RX6) (T := TX6) (N := 6) rfl hin6 0 (by decide) (by decide +kernel) rfl dX6_speaker_90 ?_
                refine lv_iconst (v := 0) hx hb dX6_speaker_93 (by decide) ?_
                refine ur_puti C h 1 (by decide) (uc_1 E _) (Cn := RX1) (T := TX1) (N := 11) rfl hin1 tyX1 tyX1_ok nmX1 10 (by decide) (by decide +kernel) rfl rfl rfl (Nat.le_of_ble_eq_true rfl) (us_1_10 E _ _) dX6_speaker_94 (fun M_14 H locs eM_14 h => ?_)
                refine lv_iload hx hb dX6_speaker_97 (lv_at hl 1 rfl) ?_
                exact ur_iret C h hr hlocks (by rw [if_pos (by omega), if_pos (by omega)]; exact ⟨by rw [eM_14, hMi, show i = 6 by omega]; rfl, rfl⟩) dX6_speaker_99
              · skip
                have c_13 : ¬ 6 ≤ i := fun z => c_13 ((nI_leI (a := 6) (b := i) (by omega) (by omega)).mpr z)
                refine lv_aload_n hx hb dX6_speaker_66 rfl (lv_at hl 2 rfl) ?_
                refine ur_get C h 0 (by decide) (uc_0 E _) (Cn := RX6) (T := TX6) (N := 6) rfl hin6 0 (by decide) (by decide +kernel) rfl dX6_speaker_67 ?_
                refine ur_get C h 1 (by decide) (uc_1 E _) (Cn := RX1) (T := TX1) (N := 11) rfl hin1 3 (by decide) (by decide +kernel) rfl dX6_speaker_70 ?_
                refine lv_iload hx hb dX6_speaker_73 (lv_at hl 1 rfl) ?_
                refine lv_bipush (v := 6) hx hb dX6_speaker_75 (by decide) ?_
                refine lv_imul hx hb dX6_speaker_77 ?_
                refine ur_eq (y := nI (n * 6)) (pk_mul n 6) ?_
                refine lv_iload hx hb dX6_speaker_78 (lv_at hl 0 rfl) ?_
                refine lv_iadd hx hb dX6_speaker_80 ?_
                refine ur_eq (y := nI (n * 6 + i)) (nI_add (n * 6) i) ?_
                refine lv_iload_n hx hb dX6_speaker_81 rfl (lv_at hl 5 rfl) ?_
                refine ur_iast C h 4 (by decide) (uc_4 E) (n * 6 + i) (by omega) (by decide) dX6_speaker_82 (fun M_15 H locs eM_15 h => ?_)
                refine lv_iinc (v := nI (i + 1)) (lv' := [(5, .int (nI (i + 1))), (4, .int (nI n)), (0, .ref (E.2.1 0)), (1, .int x1), (2, .int x2), (3, .int x3)]) hx hb dX6_speaker_83 hl (k := 0) rfl (nI_add i 1) (by decide) rfl (fun ls hl => ?_)
                refine lv_goto (tgt := 59) hx hb dX6_speaker_86 (by decide) ?_
                exact ih59  (i + 1) M_15 (by omega) (by omega) (by rw [eM_15, hMi]; rfl) _ _ _ h (lv_sub hl [0, 1, 2, 3, 4, 5] rfl)
          exact lp59 _ 0 M_12 (Nat.lt_succ_self _) (by omega) eM_12 _ _ _ h (lv_sub hl [0, 1, 2, 3, 4, 5] rfl)
        · skip
          have c_10 : ¬ n < 6 := fun z => c_10 ((nI_ltI (a := n) (b := 6) (by omega) (by omega)).mpr z)
          refine lv_bipush (v := (-3)) hx hb dX6_speaker_42 (by decide) ?_
          exact ur_iret C h hr hlocks (by rw [if_pos (by omega), if_neg (by omega)]; exact ⟨rfl, rfl⟩) dX6_speaker_44
      · skip
        have c_9 : ¬ (0 ≤ x3.toInt ∧ x3.toInt ≤ 9) := uz_f er_7 c_9
        refine lv_iconst (v := (-1)) hx hb dX6_speaker_28 (by decide) ?_
        exact ur_iret C h hr hlocks (by rw [if_neg (by omega)]; exact ⟨rfl, rfl⟩) dX6_speaker_29
set_option maxHeartbeats 1000000 in
set_option maxRecDepth 100000 in
theorem k_X6_can (l : Launch) (E : uE) (hI : uI E) (M : uM) (x1 x2 x3 : Int32) (n : Nat) (hn : M.1 1 0 = nI n) (hn6 : n ≤ 6) : Met l yX6_can wsX6_can ({ frames := 2, cells := 0, slots := 0, locals := 43 }) (va_Pc [.ref (E.2.1 0), .int x1, .int x2, .int x3] (uB E M)) (va_Qi (fun r u => if (0 ≤ x1.toInt ∧ x1.toInt < n) ∧ (0 ≤ x2.toInt ∧ x2.toInt ≤ 5) ∧ (0 ≤ x3.toInt ∧ x3.toInt ≤ 9) then u = uSet M 4 (tn x1 * 6 + tn x2) x3 ∧ r = M.1 4 (tn x1 * 6 + tn x2) else r = -1 ∧ M = u) (uP E) (uA E)) 0 0 (uA E) := by
  have hin1 : ∀ w ∈ wsX10, w ∈ wsX6_can := by decide +kernel
  have hin6 : ∀ w ∈ wsX60, w ∈ wsX6_can := by decide +kernel
  refine u_start (cc := cX6_can) (maxL := 5) (ret := (some .int)) hI (by decide) rfl (Nat.le_of_ble_eq_true rfl) ?_
  intro p_ e_ s_ m_ bl_ me_ c_ C hr hlocks h ls hl
  have hx := C.1.1
  have hb := C.1.2.1
  have hown : s_.vm.findClass RX6 = some m_.cls := C.1.2.2.2.1
  have hts := C.1.2.2.2.2
  have hl : lv_has ls 5 [(0, .ref (E.2.1 0)), (1, .int x1), (2, .int x2), (3, .int x3)] := hl
  refine lv_aload_n hx hb dX6_can_0 rfl (lv_at hl 0 rfl) ?_
  refine lv_iload_n hx hb dX6_can_1 rfl (lv_at hl 1 rfl) ?_
  refine ur_callVi C h (k := 0) (As := [.int x1]) (rest := []) (k_X6_isSpeaker l E hI M x1 n hn hn6) (cwV 1 hts gX6_can_X6_isSpeaker rfl rfl rfl (by decide +kernel) ⟨Nat.le_of_ble_eq_true rfl, Nat.le_of_ble_eq_true rfl⟩) (by decide) (uc_0 E _) (T := TX6) (N := 6) rfl rfl hl.1 rfl (Nat.le_of_ble_eq_true rfl) dX6_can_2 (fun r_1 M_2 H locs hw_2 h => ?_)
  obtain ⟨hu, er_1⟩ := hw_2
  subst hu
  refine lv_if_eq (tgt := 27) hx hb dX6_can_5 (by decide) (fun c_3 => ?_) (fun c_3 => ?_)
  · skip
    have c_3 : ¬ (0 ≤ x1.toInt ∧ x1.toInt < n) := uz_f er_1 c_3
    refine lv_iconst (v := (-1)) hx hb dX6_can_27 (by decide) ?_
    exact ur_iret C h hr hlocks (by rw [if_neg (by omega)]; exact ⟨rfl, rfl⟩) dX6_can_28
  · skip
    have c_3 : 0 ≤ x1.toInt ∧ x1.toInt < n := uz_t er_1 c_3
    refine lv_iload_n hx hb dX6_can_8 rfl (lv_at hl 2 rfl) ?_
    refine lv_iconst (v := 0) hx hb dX6_can_9 (by decide) ?_
    refine lv_iconst (v := 5) hx hb dX6_can_10 (by decide) ?_
    refine ur_callSi C h (As := [.int x2, .int 0, .int 5]) (rest := []) (k_X6_isIn l E hI M x2 0 5) (va_cwS 3 hts gX6_can_X6_isIn rfl rfl rfl (by decide +kernel) ⟨Nat.le_of_ble_eq_true rfl, Nat.le_of_ble_eq_true rfl⟩) rfl hl.1 rfl (Nat.le_of_ble_eq_true rfl) dX6_can_11 (fun r_4 M_5 H locs hw_5 h => ?_)
    obtain ⟨hu, er_4⟩ := hw_5
    subst hu
    have er_4 : r_4 = if 0 ≤ x2.toInt ∧ x2.toInt ≤ 5 then 1 else 0 := u_in32 (x := x2.toInt) rfl rfl rfl er_4
    refine lv_if_eq (tgt := 27) hx hb dX6_can_14 (by decide) (fun c_6 => ?_) (fun c_6 => ?_)
    · skip
      have c_6 : ¬ (0 ≤ x2.toInt ∧ x2.toInt ≤ 5) := uz_f er_4 c_6
      refine lv_iconst (v := (-1)) hx hb dX6_can_27 (by decide) ?_
      exact ur_iret C h hr hlocks (by rw [if_neg (by omega)]; exact ⟨rfl, rfl⟩) dX6_can_28
    · skip
      have c_6 : 0 ≤ x2.toInt ∧ x2.toInt ≤ 5 := uz_t er_4 c_6
      refine lv_iload_n hx hb dX6_can_17 rfl (lv_at hl 3 rfl) ?_
      refine lv_iconst (v := 0) hx hb dX6_can_18 (by decide) ?_
      refine lv_bipush (v := 9) hx hb dX6_can_19 (by decide) ?_
      refine ur_callSi C h (As := [.int x3, .int 0, .int 9]) (rest := []) (k_X6_isIn l E hI M x3 0 9) (va_cwS 3 hts gX6_can_X6_isIn rfl rfl rfl (by decide +kernel) ⟨Nat.le_of_ble_eq_true rfl, Nat.le_of_ble_eq_true rfl⟩) rfl hl.1 rfl (Nat.le_of_ble_eq_true rfl) dX6_can_21 (fun r_7 M_8 H locs hw_8 h => ?_)
      obtain ⟨hu, er_7⟩ := hw_8
      subst hu
      have er_7 : r_7 = if 0 ≤ x3.toInt ∧ x3.toInt ≤ 9 then 1 else 0 := u_in32 (x := x3.toInt) rfl rfl rfl er_7
      refine lv_if_ne (tgt := 29) hx hb dX6_can_24 (by decide) (fun c_9 => ?_) (fun c_9 => ?_)
      · skip
        have c_9 : 0 ≤ x3.toInt ∧ x3.toInt ≤ 9 := uz_t er_7 c_9
        obtain ⟨hnx1, enx1⟩ := u_tn c_3 (by omega)
        obtain ⟨hnx2, enx2⟩ := u_tn (x := x2) (n := 6) ⟨by omega, by omega⟩ (by omega)
        refine lv_aload_n hx hb dX6_can_29 rfl (lv_at hl 0 rfl) ?_
        refine ur_get C h 0 (by decide) (uc_0 E _) (Cn := RX6) (T := TX6) (N := 6) rfl hin6 0 (by decide) (by decide +kernel) rfl dX6_can_30 ?_
        refine ur_get C h 1 (by decide) (uc_1 E _) (Cn := RX1) (T := TX1) (N := 11) rfl hin1 3 (by decide) (by decide +kernel) rfl dX6_can_33 ?_
        refine lv_iload_n hx hb dX6_can_36 rfl (lv_at hl 1 rfl) ?_
        refine ur_eq (y := nI (tn x1)) enx1 ?_
        refine lv_bipush (v := 6) hx hb dX6_can_37 (by decide) ?_
        refine lv_imul hx hb dX6_can_39 ?_
        refine ur_eq (y := nI (tn x1 * 6)) (pk_mul (tn x1) 6) ?_
        refine lv_iload_n hx hb dX6_can_40 rfl (lv_at hl 2 rfl) ?_
        refine ur_eq (y := nI (tn x2)) enx2 ?_
        refine lv_iadd hx hb dX6_can_41 ?_
        refine ur_eq (y := nI (tn x1 * 6 + tn x2)) (nI_add (tn x1 * 6) (tn x2)) ?_
        refine ur_iald C h 4 (by decide) (uc_4 E _) (tn x1 * 6 + tn x2) (by omega) (by decide) dX6_can_42 ?_
        refine lv_topi (fun v_10 ev_10 => ?_)
        refine lv_istore (lv' := [(4, .int v_10), (0, .ref (E.2.1 0)), (1, .int x1), (2, .int x2), (3, .int x3)]) hx hb dX6_can_43 hl (by decide) rfl (fun ls hl => ?_)
        refine lv_aload_n hx hb dX6_can_45 rfl (lv_at hl 1 rfl) ?_
        refine ur_get C h 0 (by decide) (uc_0 E _) (Cn := RX6) (T := TX6) (N := 6) rfl hin6 0 (by decide) (by decide +kernel) rfl dX6_can_46 ?_
        refine ur_get C h 1 (by decide) (uc_1 E _) (Cn := RX1) (T := TX1) (N := 11) rfl hin1 3 (by decide) (by decide +kernel) rfl dX6_can_49 ?_
        refine lv_iload_n hx hb dX6_can_52 rfl (lv_at hl 2 rfl) ?_
        refine ur_eq (y := nI (tn x1)) enx1 ?_
        refine lv_bipush (v := 6) hx hb dX6_can_53 (by decide) ?_
        refine lv_imul hx hb dX6_can_55 ?_
        refine ur_eq (y := nI (tn x1 * 6)) (pk_mul (tn x1) 6) ?_
        refine lv_iload_n hx hb dX6_can_56 rfl (lv_at hl 3 rfl) ?_
        refine ur_eq (y := nI (tn x2)) enx2 ?_
        refine lv_iadd hx hb dX6_can_57 ?_
        refine ur_eq (y := nI (tn x1 * 6 + tn x2)) (nI_add (tn x1 * 6) (tn x2)) ?_
        refine lv_iload_n hx hb dX6_can_58 rfl (lv_at hl 4 rfl) ?_
        refine ur_iast C h 4 (by decide) (uc_4 E) (tn x1 * 6 + tn x2) (by omega) (by decide) dX6_can_59 (fun M_11 H locs eM_11 h => ?_)
        refine lv_iload hx hb dX6_can_60 (lv_at hl 0 rfl) ?_
        exact ur_iret C h hr hlocks (by rw [if_pos (by omega)]; subst ev_10; subst eM_11; exact ⟨rfl, rfl⟩) dX6_can_62
      · skip
        have c_9 : ¬ (0 ≤ x3.toInt ∧ x3.toInt ≤ 9) := uz_f er_7 c_9
        refine lv_iconst (v := (-1)) hx hb dX6_can_27 (by decide) ?_
        exact ur_iret C h hr hlocks (by rw [if_neg (by omega)]; exact ⟨rfl, rfl⟩) dX6_can_28
set_option maxHeartbeats 1000000 in
set_option maxRecDepth 100000 in
theorem k_X6_word (l : Launch) (E : uE) (hI : uI E) (M : uM) (x1 : Int32) (nw : Nat) (hnw : M.1 1 4 = nI nw) (hnw6 : nw ≤ 6) : Met l yX6_word wsX6_word ({ frames := 1, cells := 0, slots := 0, locals := 22 }) (va_Pc [.ref (E.2.1 0), .int x1] (uB E M)) (va_Qi (fun r u => if 1 ≤ x1.toInt ∧ x1.toInt ≤ 63 then (if nw < 6 then u = xAddW (uSet M 1 10 0) 1 nw x1 ∧ r = nI nw else r = -3 ∧ M = u) else r = -1 ∧ M = u) (uP E) (uA E)) 0 0 (uA E) := by
  have hin1 : ∀ w ∈ wsX10, w ∈ wsX6_word := by decide +kernel
  have hin6 : ∀ w ∈ wsX60, w ∈ wsX6_word := by decide +kernel
  refine u_start (cc := cX6_word) (maxL := 2) (ret := (some .int)) hI (by decide) rfl (Nat.le_of_ble_eq_true rfl) ?_
  intro p_ e_ s_ m_ bl_ me_ c_ C hr hlocks h ls hl
  have hx := C.1.1
  have hb := C.1.2.1
  have hown : s_.vm.findClass RX6 = some m_.cls := C.1.2.2.2.1
  have hts := C.1.2.2.2.2
  have hl : lv_has ls 2 [(0, .ref (E.2.1 0)), (1, .int x1)] := hl
  refine lv_iload_n hx hb dX6_word_0 rfl (lv_at hl 1 rfl) ?_
  refine lv_iconst (v := 1) hx hb dX6_word_1 (by decide) ?_
  refine lv_bipush (v := 63) hx hb dX6_word_2 (by decide) ?_
  refine ur_callSi C h (As := [.int x1, .int 1, .int 63]) (rest := []) (k_X6_isIn l E hI M x1 1 63) (va_cwS 3 hts gX6_word_X6_isIn rfl rfl rfl (by decide +kernel) ⟨Nat.le_of_ble_eq_true rfl, Nat.le_of_ble_eq_true rfl⟩) rfl hl.1 rfl (Nat.le_of_ble_eq_true rfl) dX6_word_4 (fun r_1 M_2 H locs hw_2 h => ?_)
  obtain ⟨hu, er_1⟩ := hw_2
  subst hu
  have er_1 : r_1 = if 1 ≤ x1.toInt ∧ x1.toInt ≤ 63 then 1 else 0 := u_in32 (x := x1.toInt) rfl rfl rfl er_1
  refine lv_if_ne (tgt := 12) hx hb dX6_word_7 (by decide) (fun c_3 => ?_) (fun c_3 => ?_)
  · skip
    have c_3 : 1 ≤ x1.toInt ∧ x1.toInt ≤ 63 := uz_t er_1 c_3
    refine lv_aload_n hx hb dX6_word_12 rfl (lv_at hl 0 rfl) ?_
    refine ur_get C h 0 (by decide) (uc_0 E _) (Cn := RX6) (T := TX6) (N := 6) rfl hin6 0 (by decide) (by decide +kernel) rfl dX6_word_13 ?_
    refine ur_get C h 1 (by decide) (uc_1 E _) (Cn := RX1) (T := TX1) (N := 11) rfl hin1 4 (by decide) (by decide +kernel) rfl dX6_word_16 ?_
    refine ur_eq (y := nI nw) (hnw) ?_
    refine lv_bipush (v := 6) hx hb dX6_word_19 (by decide) ?_
    refine lv_icmp_lt (tgt := 27) hx hb dX6_word_21 (by decide) (fun c_4 => ?_) (fun c_4 => ?_)
    · skip
      have c_4 : nw < 6 := (nI_ltI (a := nw) (b := 6) (by omega) (by omega)).mp c_4
      refine lv_aload_n hx hb dX6_word_27 rfl (lv_at hl 0 rfl) ?_
      refine ur_get C h 0 (by decide) (uc_0 E _) (Cn := RX6) (T := TX6) (N := 6) rfl hin6 0 (by decide) (by decide +kernel) rfl dX6_word_28 ?_
      refine lv_iconst (v := 0) hx hb dX6_word_31 (by decide) ?_
      refine ur_puti C h 1 (by decide) (uc_1 E _) (Cn := RX1) (T := TX1) (N := 11) rfl hin1 tyX1 tyX1_ok nmX1 10 (by decide) (by decide +kernel) rfl rfl rfl (Nat.le_of_ble_eq_true rfl) (us_1_10 E _ _) dX6_word_32 (fun M_5 H locs eM_5 h => ?_)
      refine lv_aload_n hx hb dX6_word_35 rfl (lv_at hl 0 rfl) ?_
      refine ur_get C h 0 (by decide) (uc_0 E _) (Cn := RX6) (T := TX6) (N := 6) rfl hin6 0 (by decide) (by decide +kernel) rfl dX6_word_36 ?_
      refine lv_iload_n hx hb dX6_word_39 rfl (lv_at hl 1 rfl) ?_
      refine ur_callVi C h (k := 1) (As := [.int x1]) (rest := []) (k_X1_addWord_1 l E hI M_5 x1 nw (by rw [eM_5, u_set1, if_pos rfl, if_neg (by omega)]; exact hnw) (by omega)) (cwV 1 hts gX6_word_X1_addWord rfl rfl rfl (by decide +kernel) ⟨Nat.le_of_ble_eq_true rfl, Nat.le_of_ble_eq_true rfl⟩) (by decide) (uc_1 E _) (T := TX1) (N := 11) rfl rfl hl.1 rfl (Nat.le_of_ble_eq_true rfl) dX6_word_40 (fun r_6 M_7 H locs hw_7 h => ?_)
      obtain ⟨eM_7, er_6⟩ := hw_7
      refine ur_eq (y := nI nw) er_6 ?_
      exact ur_iret C h hr hlocks (by rw [if_pos (by omega), if_pos (by omega)]; subst eM_5; subst eM_7; exact ⟨rfl, rfl⟩) dX6_word_43
    · skip
      have c_4 : ¬ nw < 6 := fun z => c_4 ((nI_ltI (a := nw) (b := 6) (by omega) (by omega)).mpr z)
      refine lv_bipush (v := (-3)) hx hb dX6_word_24 (by decide) ?_
      exact ur_iret C h hr hlocks (by rw [if_pos (by omega), if_neg (by omega)]; exact ⟨rfl, rfl⟩) dX6_word_26
  · skip
    have c_3 : ¬ (1 ≤ x1.toInt ∧ x1.toInt ≤ 63) := uz_f er_1 c_3
    refine lv_iconst (v := (-1)) hx hb dX6_word_10 (by decide) ?_
    exact ur_iret C h hr hlocks (by rw [if_neg (by omega)]; exact ⟨rfl, rfl⟩) dX6_word_11
set_option maxHeartbeats 1000000 in
set_option maxRecDepth 100000 in
theorem k_X6_guard (l : Launch) (E : uE) (hI : uI E) (M : uM) (x1 x2 : Int32) : Met l yX6_guard wsX6_guard ({ frames := 1, cells := 0, slots := 0, locals := 22 }) (va_Pc [.ref (E.2.1 0), .int x1, .int x2] (uB E M)) (va_Qi (fun r u => if x1 = 0 ∧ (0 ≤ x2.toInt ∧ x2.toInt ≤ 10) then u = uSet M 1 6 x2 ∧ r = M.1 1 6 else if x1 = 1 ∧ (1 ≤ x2.toInt ∧ x2.toInt ≤ 24) then u = uSet M 1 7 x2 ∧ r = M.1 1 7 else r = -1 ∧ M = u) (uP E) (uA E)) 0 0 (uA E) := by
  have hin1 : ∀ w ∈ wsX10, w ∈ wsX6_guard := by decide +kernel
  have hin6 : ∀ w ∈ wsX60, w ∈ wsX6_guard := by decide +kernel
  refine u_start (cc := cX6_guard) (maxL := 4) (ret := (some .int)) hI (by decide) rfl (Nat.le_of_ble_eq_true rfl) ?_
  intro p_ e_ s_ m_ bl_ me_ c_ C hr hlocks h ls hl
  have hx := C.1.1
  have hb := C.1.2.1
  have hown : s_.vm.findClass RX6 = some m_.cls := C.1.2.2.2.1
  have hts := C.1.2.2.2.2
  have hl : lv_has ls 4 [(0, .ref (E.2.1 0)), (1, .int x1), (2, .int x2)] := hl
  refine lv_iload_n hx hb dX6_guard_0 rfl (lv_at hl 1 rfl) ?_
  refine lv_if_ne (tgt := 32) hx hb dX6_guard_1 (by decide) (fun c_1 => ?_) (fun c_1 => ?_)
  · skip
    refine lv_iload_n hx hb dX6_guard_32 rfl (lv_at hl 1 rfl) ?_
    refine lv_iconst (v := 1) hx hb dX6_guard_33 (by decide) ?_
    refine lv_icmp_ne (tgt := 65) hx hb dX6_guard_34 (by decide) (fun c_2 => ?_) (fun c_2 => ?_)
    · skip
      refine lv_iconst (v := (-1)) hx hb dX6_guard_65 (by decide) ?_
      exact ur_iret C h hr hlocks (by rw [if_neg (fun z => by first | exact absurd z.1 (by assumption) | exact absurd z.2 (by assumption)), if_neg (fun z => by first | exact absurd z.1 (by assumption) | exact absurd z.2 (by assumption) | exact absurd (z.1.symm.trans (by assumption)) (by decide))]; exact ⟨rfl, rfl⟩) dX6_guard_66
    · skip
      refine lv_iload_n hx hb dX6_guard_37 rfl (lv_at hl 2 rfl) ?_
      refine lv_iconst (v := 1) hx hb dX6_guard_38 (by decide) ?_
      refine lv_bipush (v := 24) hx hb dX6_guard_39 (by decide) ?_
      refine ur_callSi C h (As := [.int x2, .int 1, .int 24]) (rest := []) (k_X6_isIn l E hI M x2 1 24) (va_cwS 3 hts gX6_guard_X6_isIn rfl rfl rfl (by decide +kernel) ⟨Nat.le_of_ble_eq_true rfl, Nat.le_of_ble_eq_true rfl⟩) rfl hl.1 rfl (Nat.le_of_ble_eq_true rfl) dX6_guard_41 (fun r_3 M_4 H locs hw_4 h => ?_)
      obtain ⟨hu, er_3⟩ := hw_4
      subst hu
      have er_3 : r_3 = if 1 ≤ x2.toInt ∧ x2.toInt ≤ 24 then 1 else 0 := u_in32 (x := x2.toInt) rfl rfl rfl er_3
      refine lv_if_eq (tgt := 65) hx hb dX6_guard_44 (by decide) (fun c_5 => ?_) (fun c_5 => ?_)
      · skip
        have c_5 : ¬ (1 ≤ x2.toInt ∧ x2.toInt ≤ 24) := uz_f er_3 c_5
        refine lv_iconst (v := (-1)) hx hb dX6_guard_65 (by decide) ?_
        exact ur_iret C h hr hlocks (by rw [if_neg (fun z => by first | exact absurd z.1 (by assumption) | exact absurd z.2 (by assumption)), if_neg (fun z => by first | exact absurd z.1 (by assumption) | exact absurd z.2 (by assumption) | exact absurd (z.1.symm.trans (by assumption)) (by decide))]; exact ⟨rfl, rfl⟩) dX6_guard_66
      · skip
        have c_5 : 1 ≤ x2.toInt ∧ x2.toInt ≤ 24 := uz_t er_3 c_5
        refine lv_aload_n hx hb dX6_guard_47 rfl (lv_at hl 0 rfl) ?_
        refine ur_get C h 0 (by decide) (uc_0 E _) (Cn := RX6) (T := TX6) (N := 6) rfl hin6 0 (by decide) (by decide +kernel) rfl dX6_guard_48 ?_
        refine ur_get C h 1 (by decide) (uc_1 E _) (Cn := RX1) (T := TX1) (N := 11) rfl hin1 7 (by decide) (by decide +kernel) rfl dX6_guard_51 ?_
        refine lv_istore_n (lv' := [(3, .int (M.1 1 7)), (0, .ref (E.2.1 0)), (1, .int x1), (2, .int x2)]) hx hb dX6_guard_54 rfl hl (by decide) rfl (fun ls hl => ?_)
        refine lv_aload_n hx hb dX6_guard_55 rfl (lv_at hl 1 rfl) ?_
        refine ur_get C h 0 (by decide) (uc_0 E _) (Cn := RX6) (T := TX6) (N := 6) rfl hin6 0 (by decide) (by decide +kernel) rfl dX6_guard_56 ?_
        refine lv_iload_n hx hb dX6_guard_59 rfl (lv_at hl 3 rfl) ?_
        refine ur_puti C h 1 (by decide) (uc_1 E _) (Cn := RX1) (T := TX1) (N := 11) rfl hin1 tyX1 tyX1_ok nmX1 7 (by decide) (by decide +kernel) rfl rfl rfl (Nat.le_of_ble_eq_true rfl) (us_1_7 E _ _) dX6_guard_60 (fun M_6 H locs eM_6 h => ?_)
        refine lv_iload_n hx hb dX6_guard_63 rfl (lv_at hl 0 rfl) ?_
        exact ur_iret C h hr hlocks (by rw [if_neg (fun z => by first | exact absurd z.1 (by assumption) | exact absurd z.2 (by assumption)), if_pos ⟨by assumption, by assumption⟩]; subst eM_6; exact ⟨rfl, rfl⟩) dX6_guard_64
  · skip
    refine lv_iload_n hx hb dX6_guard_4 rfl (lv_at hl 2 rfl) ?_
    refine lv_iconst (v := 0) hx hb dX6_guard_5 (by decide) ?_
    refine lv_bipush (v := 10) hx hb dX6_guard_6 (by decide) ?_
    refine ur_callSi C h (As := [.int x2, .int 0, .int 10]) (rest := []) (k_X6_isIn l E hI M x2 0 10) (va_cwS 3 hts gX6_guard_X6_isIn rfl rfl rfl (by decide +kernel) ⟨Nat.le_of_ble_eq_true rfl, Nat.le_of_ble_eq_true rfl⟩) rfl hl.1 rfl (Nat.le_of_ble_eq_true rfl) dX6_guard_8 (fun r_7 M_8 H locs hw_8 h => ?_)
    obtain ⟨hu, er_7⟩ := hw_8
    subst hu
    have er_7 : r_7 = if 0 ≤ x2.toInt ∧ x2.toInt ≤ 10 then 1 else 0 := u_in32 (x := x2.toInt) rfl rfl rfl er_7
    refine lv_if_eq (tgt := 32) hx hb dX6_guard_11 (by decide) (fun c_9 => ?_) (fun c_9 => ?_)
    · skip
      have c_9 : ¬ (0 ≤ x2.toInt ∧ x2.toInt ≤ 10) := uz_f er_7 c_9
      refine lv_iload_n hx hb dX6_guard_32 rfl (lv_at hl 1 rfl) ?_
      refine lv_iconst (v := 1) hx hb dX6_guard_33 (by decide) ?_
      refine lv_icmp_ne (tgt := 65) hx hb dX6_guard_34 (by decide) (fun c_10 => ?_) (fun c_10 => ?_)
      · skip
        refine lv_iconst (v := (-1)) hx hb dX6_guard_65 (by decide) ?_
        exact ur_iret C h hr hlocks (by rw [if_neg (fun z => by first | exact absurd z.1 (by assumption) | exact absurd z.2 (by assumption)), if_neg (fun z => by first | exact absurd z.1 (by assumption) | exact absurd z.2 (by assumption) | exact absurd (z.1.symm.trans (by assumption)) (by decide))]; exact ⟨rfl, rfl⟩) dX6_guard_66
      · skip
        refine lv_iload_n hx hb dX6_guard_37 rfl (lv_at hl 2 rfl) ?_
        refine lv_iconst (v := 1) hx hb dX6_guard_38 (by decide) ?_
        refine lv_bipush (v := 24) hx hb dX6_guard_39 (by decide) ?_
        refine ur_callSi C h (As := [.int x2, .int 1, .int 24]) (rest := []) (k_X6_isIn l E hI M x2 1 24) (va_cwS 3 hts gX6_guard_X6_isIn rfl rfl rfl (by decide +kernel) ⟨Nat.le_of_ble_eq_true rfl, Nat.le_of_ble_eq_true rfl⟩) rfl hl.1 rfl (Nat.le_of_ble_eq_true rfl) dX6_guard_41 (fun r_11 M_12 H locs hw_12 h => ?_)
        obtain ⟨hu, er_11⟩ := hw_12
        subst hu
        have er_11 : r_11 = if 1 ≤ x2.toInt ∧ x2.toInt ≤ 24 then 1 else 0 := u_in32 (x := x2.toInt) rfl rfl rfl er_11
        refine lv_if_eq (tgt := 65) hx hb dX6_guard_44 (by decide) (fun c_13 => ?_) (fun c_13 => ?_)
        · skip
          have c_13 : ¬ (1 ≤ x2.toInt ∧ x2.toInt ≤ 24) := uz_f er_11 c_13
          refine lv_iconst (v := (-1)) hx hb dX6_guard_65 (by decide) ?_
          exact ur_iret C h hr hlocks (by rw [if_neg (fun z => by first | exact absurd z.1 (by assumption) | exact absurd z.2 (by assumption)), if_neg (fun z => by first | exact absurd z.1 (by assumption) | exact absurd z.2 (by assumption) | exact absurd (z.1.symm.trans (by assumption)) (by decide))]; exact ⟨rfl, rfl⟩) dX6_guard_66
        · skip
          have c_13 : 1 ≤ x2.toInt ∧ x2.toInt ≤ 24 := uz_t er_11 c_13
          refine lv_aload_n hx hb dX6_guard_47 rfl (lv_at hl 0 rfl) ?_
          refine ur_get C h 0 (by decide) (uc_0 E _) (Cn := RX6) (T := TX6) (N := 6) rfl hin6 0 (by decide) (by decide +kernel) rfl dX6_guard_48 ?_
          refine ur_get C h 1 (by decide) (uc_1 E _) (Cn := RX1) (T := TX1) (N := 11) rfl hin1 7 (by decide) (by decide +kernel) rfl dX6_guard_51 ?_
          refine lv_istore_n (lv' := [(3, .int (M.1 1 7)), (0, .ref (E.2.1 0)), (1, .int x1), (2, .int x2)]) hx hb dX6_guard_54 rfl hl (by decide) rfl (fun ls hl => ?_)
          refine lv_aload_n hx hb dX6_guard_55 rfl (lv_at hl 1 rfl) ?_
          refine ur_get C h 0 (by decide) (uc_0 E _) (Cn := RX6) (T := TX6) (N := 6) rfl hin6 0 (by decide) (by decide +kernel) rfl dX6_guard_56 ?_
          refine lv_iload_n hx hb dX6_guard_59 rfl (lv_at hl 3 rfl) ?_
          refine ur_puti C h 1 (by decide) (uc_1 E _) (Cn := RX1) (T := TX1) (N := 11) rfl hin1 tyX1 tyX1_ok nmX1 7 (by decide) (by decide +kernel) rfl rfl rfl (Nat.le_of_ble_eq_true rfl) (us_1_7 E _ _) dX6_guard_60 (fun M_14 H locs eM_14 h => ?_)
          refine lv_iload_n hx hb dX6_guard_63 rfl (lv_at hl 0 rfl) ?_
          exact ur_iret C h hr hlocks (by rw [if_neg (fun z => by first | exact absurd z.1 (by assumption) | exact absurd z.2 (by assumption)), if_pos ⟨by assumption, by assumption⟩]; subst eM_14; exact ⟨rfl, rfl⟩) dX6_guard_64
    · skip
      have c_9 : 0 ≤ x2.toInt ∧ x2.toInt ≤ 10 := uz_t er_7 c_9
      refine lv_aload_n hx hb dX6_guard_14 rfl (lv_at hl 0 rfl) ?_
      refine ur_get C h 0 (by decide) (uc_0 E _) (Cn := RX6) (T := TX6) (N := 6) rfl hin6 0 (by decide) (by decide +kernel) rfl dX6_guard_15 ?_
      refine ur_get C h 1 (by decide) (uc_1 E _) (Cn := RX1) (T := TX1) (N := 11) rfl hin1 6 (by decide) (by decide +kernel) rfl dX6_guard_18 ?_
      refine lv_istore_n (lv' := [(3, .int (M.1 1 6)), (0, .ref (E.2.1 0)), (1, .int x1), (2, .int x2)]) hx hb dX6_guard_21 rfl hl (by decide) rfl (fun ls hl => ?_)
      refine lv_aload_n hx hb dX6_guard_22 rfl (lv_at hl 1 rfl) ?_
      refine ur_get C h 0 (by decide) (uc_0 E _) (Cn := RX6) (T := TX6) (N := 6) rfl hin6 0 (by decide) (by decide +kernel) rfl dX6_guard_23 ?_
      refine lv_iload_n hx hb dX6_guard_26 rfl (lv_at hl 3 rfl) ?_
      refine ur_puti C h 1 (by decide) (uc_1 E _) (Cn := RX1) (T := TX1) (N := 11) rfl hin1 tyX1 tyX1_ok nmX1 6 (by decide) (by decide +kernel) rfl rfl rfl (Nat.le_of_ble_eq_true rfl) (us_1_6 E _ _) dX6_guard_27 (fun M_15 H locs eM_15 h => ?_)
      refine lv_iload_n hx hb dX6_guard_30 rfl (lv_at hl 0 rfl) ?_
      exact ur_iret C h hr hlocks (by rw [if_pos ⟨by assumption, by assumption⟩]; subst eM_15; exact ⟨rfl, rfl⟩) dX6_guard_31
set_option maxHeartbeats 1000000 in
set_option maxRecDepth 100000 in
theorem k_X6_of (l : Launch) (E : uE) (hI : uI E) (M : uM) (x1 x2 : Int32) (n : Nat) (hn : M.1 1 0 = nI n) (hn6 : n ≤ 6) : Met l yX6_of wsX6_of ({ frames := 2, cells := 0, slots := 0, locals := 43 }) (va_Pc [.ref (E.2.1 0), .int x1, .int x2] (uB E M)) (va_Qi (fun r u => M = u ∧ r = if 0 ≤ x1.toInt ∧ x1.toInt < n then xOf M (tn x1) x2 else -1) (uP E) (uA E)) 0 0 (uA E) := by
  have hin1 : ∀ w ∈ wsX10, w ∈ wsX6_of := by decide +kernel
  have hin3 : ∀ w ∈ wsX30, w ∈ wsX6_of := by decide +kernel
  have hin6 : ∀ w ∈ wsX60, w ∈ wsX6_of := by decide +kernel
  refine u_start (cc := cX6_of) (maxL := 3) (ret := (some .int)) hI (by decide) rfl (Nat.le_of_ble_eq_true rfl) ?_
  intro p_ e_ s_ m_ bl_ me_ c_ C hr hlocks h ls hl
  have hx := C.1.1
  have hb := C.1.2.1
  have hown : s_.vm.findClass RX6 = some m_.cls := C.1.2.2.2.1
  have hts := C.1.2.2.2.2
  have hl : lv_has ls 3 [(0, .ref (E.2.1 0)), (1, .int x1), (2, .int x2)] := hl
  refine lv_aload_n hx hb dX6_of_0 rfl (lv_at hl 0 rfl) ?_
  refine lv_iload_n hx hb dX6_of_1 rfl (lv_at hl 1 rfl) ?_
  refine ur_callVi C h (k := 0) (As := [.int x1]) (rest := []) (k_X6_isSpeaker l E hI M x1 n hn hn6) (cwV 1 hts gX6_of_X6_isSpeaker rfl rfl rfl (by decide +kernel) ⟨Nat.le_of_ble_eq_true rfl, Nat.le_of_ble_eq_true rfl⟩) (by decide) (uc_0 E _) (T := TX6) (N := 6) rfl rfl hl.1 rfl (Nat.le_of_ble_eq_true rfl) dX6_of_2 (fun r_1 M_2 H locs hw_2 h => ?_)
  obtain ⟨hu, er_1⟩ := hw_2
  subst hu
  refine lv_if_ne (tgt := 10) hx hb dX6_of_5 (by decide) (fun c_3 => ?_) (fun c_3 => ?_)
  · skip
    have c_3 : 0 ≤ x1.toInt ∧ x1.toInt < n := uz_t er_1 c_3
    obtain ⟨hnx1, enx1⟩ := u_tn c_3 (by omega)
    refine lv_iload_n hx hb dX6_of_10 rfl (lv_at hl 2 rfl) ?_
    rcases Decidable.em (x2 = 0) with c_4 | c_4
    · skip
      refine lv_tableIn (off := 29) (tgt := 40) hx hb dX6_of_11 (by rw [c_4]; decide) (by rw [c_4]; decide) (by rw [c_4]; rfl) (by decide) ?_
      refine lv_aload_n hx hb dX6_of_40 rfl (lv_at hl 0 rfl) ?_
      refine ur_get C h 0 (by decide) (uc_0 E _) (Cn := RX6) (T := TX6) (N := 6) rfl hin6 0 (by decide) (by decide +kernel) rfl dX6_of_41 ?_
      refine ur_get C h 1 (by decide) (uc_1 E _) (Cn := RX1) (T := TX1) (N := 11) rfl hin1 1 (by decide) (by decide +kernel) rfl dX6_of_44 ?_
      refine lv_iload_n hx hb dX6_of_47 rfl (lv_at hl 1 rfl) ?_
      refine ur_eq (y := nI (tn x1)) enx1 ?_
      refine ur_iald C h 2 (by decide) (uc_2 E _) (tn x1) (by omega) (by decide) dX6_of_48 ?_
      exact ur_iret C h hr hlocks (⟨rfl, by rw [if_pos c_3]; unfold xOf; rw [if_pos c_4]⟩) dX6_of_49
    rcases Decidable.em (x2 = 1) with c_5 | c_5
    · skip
      refine lv_tableIn (off := 39) (tgt := 50) hx hb dX6_of_11 (by rw [c_5]; decide) (by rw [c_5]; decide) (by rw [c_5]; rfl) (by decide) ?_
      refine lv_aload_n hx hb dX6_of_50 rfl (lv_at hl 0 rfl) ?_
      refine ur_get C h 0 (by decide) (uc_0 E _) (Cn := RX6) (T := TX6) (N := 6) rfl hin6 0 (by decide) (by decide +kernel) rfl dX6_of_51 ?_
      refine ur_get C h 1 (by decide) (uc_1 E _) (Cn := RX1) (T := TX1) (N := 11) rfl hin1 2 (by decide) (by decide +kernel) rfl dX6_of_54 ?_
      refine lv_iload_n hx hb dX6_of_57 rfl (lv_at hl 1 rfl) ?_
      refine ur_eq (y := nI (tn x1)) enx1 ?_
      refine ur_iald C h 3 (by decide) (uc_3 E _) (tn x1) (by omega) (by decide) dX6_of_58 ?_
      exact ur_iret C h hr hlocks (⟨rfl, by rw [if_pos c_3]; unfold xOf; rw [if_neg c_4]; rw [if_pos c_5]⟩) dX6_of_59
    rcases Decidable.em (x2 = 2) with c_6 | c_6
    · skip
      refine lv_tableIn (off := 49) (tgt := 60) hx hb dX6_of_11 (by rw [c_6]; decide) (by rw [c_6]; decide) (by rw [c_6]; rfl) (by decide) ?_
      refine lv_aload_n hx hb dX6_of_60 rfl (lv_at hl 0 rfl) ?_
      refine ur_get C h 0 (by decide) (uc_0 E _) (Cn := RX6) (T := TX6) (N := 6) rfl hin6 0 (by decide) (by decide +kernel) rfl dX6_of_61 ?_
      refine ur_get C h 1 (by decide) (uc_1 E _) (Cn := RX1) (T := TX1) (N := 11) rfl hin1 8 (by decide) (by decide +kernel) rfl dX6_of_64 ?_
      refine ur_get C h 7 (by decide) (uc_7 E _) (Cn := RX3) (T := TX3) (N := 6) rfl hin3 0 (by decide) (by decide +kernel) rfl dX6_of_67 ?_
      refine lv_iload_n hx hb dX6_of_70 rfl (lv_at hl 1 rfl) ?_
      refine ur_eq (y := nI (tn x1)) enx1 ?_
      refine ur_iald C h 8 (by decide) (uc_8 E _) (tn x1) (by omega) (by decide) dX6_of_71 ?_
      exact ur_iret C h hr hlocks (⟨rfl, by rw [if_pos c_3]; unfold xOf; rw [if_neg c_4]; rw [if_neg c_5]; rw [if_pos c_6]⟩) dX6_of_72
    rcases Decidable.em (x2 = 3) with c_7 | c_7
    · skip
      refine lv_tableIn (off := 62) (tgt := 73) hx hb dX6_of_11 (by rw [c_7]; decide) (by rw [c_7]; decide) (by rw [c_7]; rfl) (by decide) ?_
      refine lv_aload_n hx hb dX6_of_73 rfl (lv_at hl 0 rfl) ?_
      refine ur_get C h 0 (by decide) (uc_0 E _) (Cn := RX6) (T := TX6) (N := 6) rfl hin6 0 (by decide) (by decide +kernel) rfl dX6_of_74 ?_
      refine ur_get C h 1 (by decide) (uc_1 E _) (Cn := RX1) (T := TX1) (N := 11) rfl hin1 8 (by decide) (by decide +kernel) rfl dX6_of_77 ?_
      refine ur_get C h 7 (by decide) (uc_7 E _) (Cn := RX3) (T := TX3) (N := 6) rfl hin3 1 (by decide) (by decide +kernel) rfl dX6_of_80 ?_
      refine lv_iload_n hx hb dX6_of_83 rfl (lv_at hl 1 rfl) ?_
      refine ur_eq (y := nI (tn x1)) enx1 ?_
      refine ur_iald C h 9 (by decide) (uc_9 E _) (tn x1) (by omega) (by decide) dX6_of_84 ?_
      exact ur_iret C h hr hlocks (⟨rfl, by rw [if_pos c_3]; unfold xOf; rw [if_neg c_4]; rw [if_neg c_5]; rw [if_neg c_6]; rw [if_pos c_7]⟩) dX6_of_85
    have hsw_8 : x2.toInt < 0 ∨ 3 < x2.toInt := uo_sw 0 3 (fun k hk1 hk2 => by
        have hk : k = 0 ∨ k = 1 ∨ k = 2 ∨ k = 3 := by omega
        rcases hk with rfl | rfl | rfl | rfl
        · exact lv_neT c_4 (by decide)
        · exact lv_neT c_5 (by decide)
        · exact lv_neT c_6 (by decide)
        · exact lv_neT c_7 (by decide))
    refine lv_tableOut (tgt := 86) hx hb dX6_of_11 hsw_8 (by decide) ?_
    refine lv_iconst (v := (-1)) hx hb dX6_of_86 (by decide) ?_
    exact ur_iret C h hr hlocks (⟨rfl, by rw [if_pos c_3]; unfold xOf; rw [if_neg c_4]; rw [if_neg c_5]; rw [if_neg c_6]; rw [if_neg c_7]⟩) dX6_of_87
  · skip
    have c_3 : ¬ (0 ≤ x1.toInt ∧ x1.toInt < n) := uz_f er_1 c_3
    refine lv_iconst (v := (-1)) hx hb dX6_of_8 (by decide) ?_
    exact ur_iret C h hr hlocks (⟨rfl, by rw [if_neg c_3]⟩) dX6_of_9
set_option maxHeartbeats 1000000 in
set_option maxRecDepth 100000 in
theorem k_X6_skill (l : Launch) (E : uE) (hI : uI E) (M : uM) (x1 x2 x3 : Int32) (n : Nat) (hn : M.1 1 0 = nI n) (hn6 : n ≤ 6) (nw : Nat) (hnw : M.1 1 4 = nI nw) (hnw6 : nw ≤ 6) : Met l yX6_skill wsX6_skill ({ frames := 3, cells := 0, slots := 0, locals := 69 }) (va_Pc [.ref (E.2.1 0), .int x1, .int x2, .int x3] (uB E M)) (va_Qi (fun r u => M = u ∧ r = if (0 ≤ x1.toInt ∧ x1.toInt < n) ∧ (0 ≤ x2.toInt ∧ x2.toInt < nw) ∧ (0 ≤ x3.toInt ∧ x3.toInt ≤ 5) then xSk M (tn x1) (M.1 10 (tn x2)) (M.1 9 (tn x1)) (tn x3) else -1) (uP E) (uA E)) 0 0 (uA E) := by
  have hin1 : ∀ w ∈ wsX10, w ∈ wsX6_skill := by decide +kernel
  have hin3 : ∀ w ∈ wsX30, w ∈ wsX6_skill := by decide +kernel
  have hin6 : ∀ w ∈ wsX60, w ∈ wsX6_skill := by decide +kernel
  refine u_start (cc := cX6_skill) (maxL := 4) (ret := (some .int)) hI (by decide) rfl (Nat.le_of_ble_eq_true rfl) ?_
  intro p_ e_ s_ m_ bl_ me_ c_ C hr hlocks h ls hl
  have hx := C.1.1
  have hb := C.1.2.1
  have hown : s_.vm.findClass RX6 = some m_.cls := C.1.2.2.2.1
  have hts := C.1.2.2.2.2
  have hl : lv_has ls 4 [(0, .ref (E.2.1 0)), (1, .int x1), (2, .int x2), (3, .int x3)] := hl
  refine lv_aload_n hx hb dX6_skill_0 rfl (lv_at hl 0 rfl) ?_
  refine lv_iload_n hx hb dX6_skill_1 rfl (lv_at hl 1 rfl) ?_
  refine ur_callVi C h (k := 0) (As := [.int x1]) (rest := []) (k_X6_isSpeaker l E hI M x1 n hn hn6) (cwV 1 hts gX6_skill_X6_isSpeaker rfl rfl rfl (by decide +kernel) ⟨Nat.le_of_ble_eq_true rfl, Nat.le_of_ble_eq_true rfl⟩) (by decide) (uc_0 E _) (T := TX6) (N := 6) rfl rfl hl.1 rfl (Nat.le_of_ble_eq_true rfl) dX6_skill_2 (fun r_1 M_2 H locs hw_2 h => ?_)
  obtain ⟨hu, er_1⟩ := hw_2
  subst hu
  refine lv_if_eq (tgt := 25) hx hb dX6_skill_5 (by decide) (fun c_3 => ?_) (fun c_3 => ?_)
  · skip
    have c_3 : ¬ (0 ≤ x1.toInt ∧ x1.toInt < n) := uz_f er_1 c_3
    refine lv_iconst (v := (-1)) hx hb dX6_skill_25 (by decide) ?_
    exact ur_iret C h hr hlocks (⟨rfl, by rw [if_neg (by omega)]⟩) dX6_skill_26
  · skip
    have c_3 : 0 ≤ x1.toInt ∧ x1.toInt < n := uz_t er_1 c_3
    refine lv_aload_n hx hb dX6_skill_8 rfl (lv_at hl 0 rfl) ?_
    refine lv_iload_n hx hb dX6_skill_9 rfl (lv_at hl 2 rfl) ?_
    refine ur_callVi C h (k := 0) (As := [.int x2]) (rest := []) (k_X6_isWord l E hI M x2 nw hnw hnw6) (cwV 1 hts gX6_skill_X6_isWord rfl rfl rfl (by decide +kernel) ⟨Nat.le_of_ble_eq_true rfl, Nat.le_of_ble_eq_true rfl⟩) (by decide) (uc_0 E _) (T := TX6) (N := 6) rfl rfl hl.1 rfl (Nat.le_of_ble_eq_true rfl) dX6_skill_10 (fun r_4 M_5 H locs hw_5 h => ?_)
    obtain ⟨hu, er_4⟩ := hw_5
    subst hu
    refine lv_if_eq (tgt := 25) hx hb dX6_skill_13 (by decide) (fun c_6 => ?_) (fun c_6 => ?_)
    · skip
      have c_6 : ¬ (0 ≤ x2.toInt ∧ x2.toInt < nw) := uz_f er_4 c_6
      refine lv_iconst (v := (-1)) hx hb dX6_skill_25 (by decide) ?_
      exact ur_iret C h hr hlocks (⟨rfl, by rw [if_neg (by omega)]⟩) dX6_skill_26
    · skip
      have c_6 : 0 ≤ x2.toInt ∧ x2.toInt < nw := uz_t er_4 c_6
      refine lv_iload_n hx hb dX6_skill_16 rfl (lv_at hl 3 rfl) ?_
      refine lv_iconst (v := 0) hx hb dX6_skill_17 (by decide) ?_
      refine lv_iconst (v := 5) hx hb dX6_skill_18 (by decide) ?_
      refine ur_callSi C h (As := [.int x3, .int 0, .int 5]) (rest := []) (k_X6_isIn l E hI M x3 0 5) (va_cwS 3 hts gX6_skill_X6_isIn rfl rfl rfl (by decide +kernel) ⟨Nat.le_of_ble_eq_true rfl, Nat.le_of_ble_eq_true rfl⟩) rfl hl.1 rfl (Nat.le_of_ble_eq_true rfl) dX6_skill_19 (fun r_7 M_8 H locs hw_8 h => ?_)
      obtain ⟨hu, er_7⟩ := hw_8
      subst hu
      have er_7 : r_7 = if 0 ≤ x3.toInt ∧ x3.toInt ≤ 5 then 1 else 0 := u_in32 (x := x3.toInt) rfl rfl rfl er_7
      refine lv_if_ne (tgt := 27) hx hb dX6_skill_22 (by decide) (fun c_9 => ?_) (fun c_9 => ?_)
      · skip
        have c_9 : 0 ≤ x3.toInt ∧ x3.toInt ≤ 5 := uz_t er_7 c_9
        obtain ⟨hnx1, enx1⟩ := u_tn c_3 (by omega)
        obtain ⟨hnx2, enx2⟩ := u_tn c_6 (by omega)
        obtain ⟨hnx3, enx3⟩ := u_tn (x := x3) (n := 6) ⟨by omega, by omega⟩ (by omega)
        refine lv_aload_n hx hb dX6_skill_27 rfl (lv_at hl 0 rfl) ?_
        refine ur_get C h 0 (by decide) (uc_0 E _) (Cn := RX6) (T := TX6) (N := 6) rfl hin6 0 (by decide) (by decide +kernel) rfl dX6_skill_28 ?_
        refine lv_iload_n hx hb dX6_skill_31 rfl (lv_at hl 1 rfl) ?_
        refine ur_eq (y := nI (tn x1)) enx1 ?_
        refine lv_iload_n hx hb dX6_skill_32 rfl (lv_at hl 3 rfl) ?_
        refine ur_eq (y := nI (tn x3)) enx3 ?_
        refine lv_aload_n hx hb dX6_skill_33 rfl (lv_at hl 0 rfl) ?_
        refine ur_get C h 0 (by decide) (uc_0 E _) (Cn := RX6) (T := TX6) (N := 6) rfl hin6 0 (by decide) (by decide +kernel) rfl dX6_skill_34 ?_
        refine ur_get C h 1 (by decide) (uc_1 E _) (Cn := RX1) (T := TX1) (N := 11) rfl hin1 8 (by decide) (by decide +kernel) rfl dX6_skill_37 ?_
        refine ur_get C h 7 (by decide) (uc_7 E _) (Cn := RX3) (T := TX3) (N := 6) rfl hin3 1 (by decide) (by decide +kernel) rfl dX6_skill_40 ?_
        refine lv_iload_n hx hb dX6_skill_43 rfl (lv_at hl 1 rfl) ?_
        refine ur_eq (y := nI (tn x1)) enx1 ?_
        refine ur_iald C h 9 (by decide) (uc_9 E _) (tn x1) (by omega) (by decide) dX6_skill_44 ?_
        refine lv_aload_n hx hb dX6_skill_45 rfl (lv_at hl 0 rfl) ?_
        refine ur_get C h 0 (by decide) (uc_0 E _) (Cn := RX6) (T := TX6) (N := 6) rfl hin6 0 (by decide) (by decide +kernel) rfl dX6_skill_46 ?_
        refine ur_get C h 1 (by decide) (uc_1 E _) (Cn := RX1) (T := TX1) (N := 11) rfl hin1 8 (by decide) (by decide +kernel) rfl dX6_skill_49 ?_
        refine ur_get C h 7 (by decide) (uc_7 E _) (Cn := RX3) (T := TX3) (N := 6) rfl hin3 2 (by decide) (by decide +kernel) rfl dX6_skill_52 ?_
        refine lv_iload_n hx hb dX6_skill_55 rfl (lv_at hl 2 rfl) ?_
        refine ur_eq (y := nI (tn x2)) enx2 ?_
        refine ur_iald C h 10 (by decide) (uc_10 E _) (tn x2) (by omega) (by decide) dX6_skill_56 ?_
        refine ur_callVi C h (k := 1) (As := [.int (nI (tn x1)), .int (nI (tn x3)), .int (M.1 9 (tn x1)), .int (M.1 10 (tn x2))]) (rest := []) (k_X1_skillAt l E hI M (tn x1) (tn x3) (M.1 9 (tn x1)) (M.1 10 (tn x2)) (by omega) (by omega)) (cwV 4 hts gX6_skill_X1_skillAt rfl rfl rfl (by decide +kernel) ⟨Nat.le_of_ble_eq_true rfl, Nat.le_of_ble_eq_true rfl⟩) (by decide) (uc_1 E _) (T := TX1) (N := 11) rfl rfl hl.1 rfl (Nat.le_of_ble_eq_true rfl) dX6_skill_57 (fun r_10 M_11 H locs hw_11 h => ?_)
        obtain ⟨hu, er_10⟩ := hw_11
        subst hu
        refine ur_eq (y := xSk M (tn x1) (M.1 10 (tn x2)) (M.1 9 (tn x1)) (tn x3)) er_10 ?_
        exact ur_iret C h hr hlocks (⟨rfl, by rw [if_pos (by omega)]⟩) dX6_skill_60
      · skip
        have c_9 : ¬ (0 ≤ x3.toInt ∧ x3.toInt ≤ 5) := uz_f er_7 c_9
        refine lv_iconst (v := (-1)) hx hb dX6_skill_25 (by decide) ?_
        exact ur_iret C h hr hlocks (⟨rfl, by rw [if_neg (by omega)]⟩) dX6_skill_26
set_option maxHeartbeats 1000000 in
set_option maxRecDepth 100000 in
theorem k_X6_type (l : Launch) (E : uE) (hI : uI E) (M : uM) (x1 : Int32) (ty : Nat) (hty : M.1 240 1 = nI ty) (hty90 : ty ≤ 90) : Met l yX6_type wsX6_type ({ frames := 1, cells := 0, slots := 0, locals := 22 }) (va_Pc [.ref (E.2.1 0), .int x1] (uB E M)) (va_Qi (fun r u => if 32 ≤ x1.toInt ∧ x1.toInt ≤ 126 then (if ty < 90 then u = uSet (uSet M 241 ty (x1.toUInt32 % 65536).toInt32) 240 1 (nI (ty + 1)) ∧ r = nI (ty + 1) else r = -3 ∧ M = u) else r = -1 ∧ M = u) (uP E) (uA E)) 0 0 (uA E) := by
  have hin5 : ∀ w ∈ wsX50, w ∈ wsX6_type := by decide +kernel
  have hin6 : ∀ w ∈ wsX60, w ∈ wsX6_type := by decide +kernel
  refine u_start (cc := cX6_type) (maxL := 2) (ret := (some .int)) hI (by decide) rfl (Nat.le_of_ble_eq_true rfl) ?_
  intro p_ e_ s_ m_ bl_ me_ c_ C hr hlocks h ls hl
  have hx := C.1.1
  have hb := C.1.2.1
  have hown : s_.vm.findClass RX6 = some m_.cls := C.1.2.2.2.1
  have hts := C.1.2.2.2.2
  have hl : lv_has ls 2 [(0, .ref (E.2.1 0)), (1, .int x1)] := hl
  refine lv_iload_n hx hb dX6_type_0 rfl (lv_at hl 1 rfl) ?_
  refine lv_bipush (v := 32) hx hb dX6_type_1 (by decide) ?_
  refine lv_bipush (v := 126) hx hb dX6_type_3 (by decide) ?_
  refine ur_callSi C h (As := [.int x1, .int 32, .int 126]) (rest := []) (k_X6_isIn l E hI M x1 32 126) (va_cwS 3 hts gX6_type_X6_isIn rfl rfl rfl (by decide +kernel) ⟨Nat.le_of_ble_eq_true rfl, Nat.le_of_ble_eq_true rfl⟩) rfl hl.1 rfl (Nat.le_of_ble_eq_true rfl) dX6_type_5 (fun r_1 M_2 H locs hw_2 h => ?_)
  obtain ⟨hu, er_1⟩ := hw_2
  subst hu
  have er_1 : r_1 = if 32 ≤ x1.toInt ∧ x1.toInt ≤ 126 then 1 else 0 := u_in32 (x := x1.toInt) rfl rfl rfl er_1
  refine lv_if_ne (tgt := 13) hx hb dX6_type_8 (by decide) (fun c_3 => ?_) (fun c_3 => ?_)
  · skip
    have c_3 : 32 ≤ x1.toInt ∧ x1.toInt ≤ 126 := uz_t er_1 c_3
    refine lv_aload_n hx hb dX6_type_13 rfl (lv_at hl 0 rfl) ?_
    refine ur_get C h 0 (by decide) (uc_0 E _) (Cn := RX6) (T := TX6) (N := 6) rfl hin6 4 (by decide) (by decide +kernel) rfl dX6_type_14 ?_
    refine ur_get C h 240 (by decide) (uc_240 E _) (Cn := RX5) (T := TX5) (N := 4) rfl hin5 1 (by decide) (by decide +kernel) rfl dX6_type_17 ?_
    refine ur_eq (y := nI ty) (hty) ?_
    refine lv_bipush (v := 90) hx hb dX6_type_20 (by decide) ?_
    refine lv_icmp_lt (tgt := 28) hx hb dX6_type_22 (by decide) (fun c_4 => ?_) (fun c_4 => ?_)
    · skip
      have c_4 : ty < 90 := (nI_ltI (a := ty) (b := 90) (by omega) (by omega)).mp c_4
      refine lv_aload_n hx hb dX6_type_28 rfl (lv_at hl 0 rfl) ?_
      refine ur_get C h 0 (by decide) (uc_0 E _) (Cn := RX6) (T := TX6) (N := 6) rfl hin6 4 (by decide) (by decide +kernel) rfl dX6_type_29 ?_
      refine ur_get C h 240 (by decide) (uc_240 E _) (Cn := RX5) (T := TX5) (N := 4) rfl hin5 0 (by decide) (by decide +kernel) rfl dX6_type_32 ?_
      refine lv_aload_n hx hb dX6_type_35 rfl (lv_at hl 0 rfl) ?_
      refine ur_get C h 0 (by decide) (uc_0 E _) (Cn := RX6) (T := TX6) (N := 6) rfl hin6 4 (by decide) (by decide +kernel) rfl dX6_type_36 ?_
      refine ur_get C h 240 (by decide) (uc_240 E _) (Cn := RX5) (T := TX5) (N := 4) rfl hin5 1 (by decide) (by decide +kernel) rfl dX6_type_39 ?_
      refine ur_eq (y := nI ty) (hty) ?_
      refine lv_iload_n hx hb dX6_type_42 rfl (lv_at hl 1 rfl) ?_
      refine lv_i2c (v := (x1.toUInt32 % 65536).toInt32) hx hb dX6_type_43 rfl ?_
      refine ur_cast C h 241 (by decide) (uc_241 E) (ty) (by omega) (by decide) (pk_vc _) dX6_type_44 (fun M_5 H locs eM_5 h => ?_)
      refine lv_aload_n hx hb dX6_type_45 rfl (lv_at hl 0 rfl) ?_
      refine ur_get C h 0 (by decide) (uc_0 E _) (Cn := RX6) (T := TX6) (N := 6) rfl hin6 4 (by decide) (by decide +kernel) rfl dX6_type_46 ?_
      refine lv_dup hx hb dX6_type_49 rfl ?_
      refine ur_get C h 240 (by decide) (uc_240 E _) (Cn := RX5) (T := TX5) (N := 4) rfl hin5 1 (by decide) (by decide +kernel) rfl dX6_type_50 ?_
      refine ur_eq (y := nI ty) (by rw [eM_5, u_set1, if_neg (by decide)]; exact hty) ?_
      refine lv_iconst (v := 1) hx hb dX6_type_53 (by decide) ?_
      refine lv_iadd hx hb dX6_type_54 ?_
      refine ur_eq (y := nI (ty + 1)) (nI_add ty 1) ?_
      refine ur_puti C h 240 (by decide) (uc_240 E _) (Cn := RX5) (T := TX5) (N := 4) rfl hin5 tyX5 tyX5_ok nmX5 1 (by decide) (by decide +kernel) rfl rfl rfl (Nat.le_of_ble_eq_true rfl) (us_240_1 E _ _) dX6_type_55 (fun M_6 H locs eM_6 h => ?_)
      refine lv_aload_n hx hb dX6_type_58 rfl (lv_at hl 0 rfl) ?_
      refine ur_get C h 0 (by decide) (uc_0 E _) (Cn := RX6) (T := TX6) (N := 6) rfl hin6 4 (by decide) (by decide +kernel) rfl dX6_type_59 ?_
      refine ur_get C h 240 (by decide) (uc_240 E _) (Cn := RX5) (T := TX5) (N := 4) rfl hin5 1 (by decide) (by decide +kernel) rfl dX6_type_62 ?_
      refine ur_eq (y := nI (ty + 1)) (by rw [eM_6, u_set1, if_pos rfl, if_pos rfl]; try rfl) ?_
      exact ur_iret C h hr hlocks (by rw [if_pos (by omega), if_pos (by omega)]; subst eM_5; subst eM_6; exact ⟨rfl, rfl⟩) dX6_type_65
    · skip
      have c_4 : ¬ ty < 90 := fun z => c_4 ((nI_ltI (a := ty) (b := 90) (by omega) (by omega)).mpr z)
      refine lv_bipush (v := (-3)) hx hb dX6_type_25 (by decide) ?_
      exact ur_iret C h hr hlocks (by rw [if_pos (by omega), if_neg (by omega)]; exact ⟨rfl, rfl⟩) dX6_type_27
  · skip
    have c_3 : ¬ (32 ≤ x1.toInt ∧ x1.toInt ≤ 126) := uz_f er_1 c_3
    refine lv_iconst (v := (-1)) hx hb dX6_type_11 (by decide) ?_
    exact ur_iret C h hr hlocks (by rw [if_neg (by omega)]; exact ⟨rfl, rfl⟩) dX6_type_12
set_option maxHeartbeats 1000000 in
set_option maxRecDepth 100000 in
theorem k_X6_count (l : Launch) (E : uE) (hI : uI E) (M : uM) (x1 : Int32) (n : Nat) (hn : M.1 1 0 = nI n) (hn6 : n ≤ 6) (ht : ¬ M.1 1 7 = 0) : Met l yX6_count wsX6_count ({ frames := 2, cells := 0, slots := 0, locals := 42 }) (va_Pc [.ref (E.2.1 0), .int x1] (uB E M)) (va_Qi (fun r u => M = u ∧ r = xCount M n x1) (uP E) (uA E)) 0 0 (uA E) := by
  have hin0 : ∀ w ∈ wsX00, w ∈ wsX6_count := by decide +kernel
  have hin1 : ∀ w ∈ wsX10, w ∈ wsX6_count := by decide +kernel
  have hin3 : ∀ w ∈ wsX30, w ∈ wsX6_count := by decide +kernel
  have hin6 : ∀ w ∈ wsX60, w ∈ wsX6_count := by decide +kernel
  refine u_start (cc := cX6_count) (maxL := 2) (ret := (some .int)) hI (by decide) rfl (Nat.le_of_ble_eq_true rfl) ?_
  intro p_ e_ s_ m_ bl_ me_ c_ C hr hlocks h ls hl
  have hx := C.1.1
  have hb := C.1.2.1
  have hown : s_.vm.findClass RX6 = some m_.cls := C.1.2.2.2.1
  have hts := C.1.2.2.2.2
  have hl : lv_has ls 2 [(0, .ref (E.2.1 0)), (1, .int x1)] := hl
  refine lv_iload_n hx hb dX6_count_0 rfl (lv_at hl 1 rfl) ?_
  rcases Decidable.em (x1 = 0) with c_1 | c_1
  · skip
    refine lv_tableIn (off := 59) (tgt := 60) hx hb dX6_count_1 (by rw [c_1]; decide) (by rw [c_1]; decide) (by rw [c_1]; rfl) (by decide) ?_
    refine lv_aload_n hx hb dX6_count_60 rfl (lv_at hl 0 rfl) ?_
    refine ur_get C h 0 (by decide) (uc_0 E _) (Cn := RX6) (T := TX6) (N := 6) rfl hin6 0 (by decide) (by decide +kernel) rfl dX6_count_61 ?_
    refine ur_get C h 1 (by decide) (uc_1 E _) (Cn := RX1) (T := TX1) (N := 11) rfl hin1 0 (by decide) (by decide +kernel) rfl dX6_count_64 ?_
    exact ur_iret C h hr hlocks (⟨rfl, by unfold xCount; rw [if_pos c_1]; try rfl⟩) dX6_count_67
  rcases Decidable.em (x1 = 1) with c_2 | c_2
  · skip
    refine lv_tableIn (off := 67) (tgt := 68) hx hb dX6_count_1 (by rw [c_2]; decide) (by rw [c_2]; decide) (by rw [c_2]; rfl) (by decide) ?_
    refine lv_aload_n hx hb dX6_count_68 rfl (lv_at hl 0 rfl) ?_
    refine ur_get C h 0 (by decide) (uc_0 E _) (Cn := RX6) (T := TX6) (N := 6) rfl hin6 0 (by decide) (by decide +kernel) rfl dX6_count_69 ?_
    refine ur_get C h 1 (by decide) (uc_1 E _) (Cn := RX1) (T := TX1) (N := 11) rfl hin1 4 (by decide) (by decide +kernel) rfl dX6_count_72 ?_
    exact ur_iret C h hr hlocks (⟨rfl, by unfold xCount; rw [if_neg c_1]; rw [if_pos c_2]; try rfl⟩) dX6_count_75
  rcases Decidable.em (x1 = 2) with c_3 | c_3
  · skip
    refine lv_tableIn (off := 75) (tgt := 76) hx hb dX6_count_1 (by rw [c_3]; decide) (by rw [c_3]; decide) (by rw [c_3]; rfl) (by decide) ?_
    refine lv_aload_n hx hb dX6_count_76 rfl (lv_at hl 0 rfl) ?_
    refine ur_get C h 0 (by decide) (uc_0 E _) (Cn := RX6) (T := TX6) (N := 6) rfl hin6 0 (by decide) (by decide +kernel) rfl dX6_count_77 ?_
    refine ur_get C h 1 (by decide) (uc_1 E _) (Cn := RX1) (T := TX1) (N := 11) rfl hin1 6 (by decide) (by decide +kernel) rfl dX6_count_80 ?_
    exact ur_iret C h hr hlocks (⟨rfl, by unfold xCount; rw [if_neg c_1]; rw [if_neg c_2]; rw [if_pos c_3]; try rfl⟩) dX6_count_83
  rcases Decidable.em (x1 = 3) with c_4 | c_4
  · skip
    refine lv_tableIn (off := 83) (tgt := 84) hx hb dX6_count_1 (by rw [c_4]; decide) (by rw [c_4]; decide) (by rw [c_4]; rfl) (by decide) ?_
    refine lv_aload_n hx hb dX6_count_84 rfl (lv_at hl 0 rfl) ?_
    refine ur_get C h 0 (by decide) (uc_0 E _) (Cn := RX6) (T := TX6) (N := 6) rfl hin6 0 (by decide) (by decide +kernel) rfl dX6_count_85 ?_
    refine ur_get C h 1 (by decide) (uc_1 E _) (Cn := RX1) (T := TX1) (N := 11) rfl hin1 7 (by decide) (by decide +kernel) rfl dX6_count_88 ?_
    exact ur_iret C h hr hlocks (⟨rfl, by unfold xCount; rw [if_neg c_1]; rw [if_neg c_2]; rw [if_neg c_3]; rw [if_pos c_4]; try rfl⟩) dX6_count_91
  rcases Decidable.em (x1 = 4) with c_5 | c_5
  · skip
    refine lv_tableIn (off := 91) (tgt := 92) hx hb dX6_count_1 (by rw [c_5]; decide) (by rw [c_5]; decide) (by rw [c_5]; rfl) (by decide) ?_
    refine lv_aload_n hx hb dX6_count_92 rfl (lv_at hl 0 rfl) ?_
    refine ur_get C h 0 (by decide) (uc_0 E _) (Cn := RX6) (T := TX6) (N := 6) rfl hin6 0 (by decide) (by decide +kernel) rfl dX6_count_93 ?_
    refine ur_get C h 1 (by decide) (uc_1 E _) (Cn := RX1) (T := TX1) (N := 11) rfl hin1 8 (by decide) (by decide +kernel) rfl dX6_count_96 ?_
    refine ur_get C h 7 (by decide) (uc_7 E _) (Cn := RX3) (T := TX3) (N := 6) rfl hin3 4 (by decide) (by decide +kernel) rfl dX6_count_99 ?_
    exact ur_iret C h hr hlocks (⟨rfl, by unfold xCount; rw [if_neg c_1]; rw [if_neg c_2]; rw [if_neg c_3]; rw [if_neg c_4]; rw [if_pos c_5]; try rfl⟩) dX6_count_102
  rcases Decidable.em (x1 = 5) with c_6 | c_6
  · skip
    refine lv_tableIn (off := 102) (tgt := 103) hx hb dX6_count_1 (by rw [c_6]; decide) (by rw [c_6]; decide) (by rw [c_6]; rfl) (by decide) ?_
    refine lv_aload_n hx hb dX6_count_103 rfl (lv_at hl 0 rfl) ?_
    refine ur_get C h 0 (by decide) (uc_0 E _) (Cn := RX6) (T := TX6) (N := 6) rfl hin6 0 (by decide) (by decide +kernel) rfl dX6_count_104 ?_
    refine lv_aload_n hx hb dX6_count_107 rfl (lv_at hl 0 rfl) ?_
    refine ur_get C h 0 (by decide) (uc_0 E _) (Cn := RX6) (T := TX6) (N := 6) rfl hin6 0 (by decide) (by decide +kernel) rfl dX6_count_108 ?_
    refine ur_get C h 1 (by decide) (uc_1 E _) (Cn := RX1) (T := TX1) (N := 11) rfl hin1 8 (by decide) (by decide +kernel) rfl dX6_count_111 ?_
    refine ur_get C h 7 (by decide) (uc_7 E _) (Cn := RX3) (T := TX3) (N := 6) rfl hin3 4 (by decide) (by decide +kernel) rfl dX6_count_114 ?_
    refine ur_callVi C h (k := 1) (As := [.int (M.1 7 4)]) (rest := []) (k_X1_hearsIn l E hI M (M.1 7 4) ht) (cwV 1 hts gX6_count_X1_hearsIn rfl rfl rfl (by decide +kernel) ⟨Nat.le_of_ble_eq_true rfl, Nat.le_of_ble_eq_true rfl⟩) (by decide) (uc_1 E _) (T := TX1) (N := 11) rfl rfl hl.1 rfl (Nat.le_of_ble_eq_true rfl) dX6_count_117 (fun r_7 M_8 H locs hw_8 h => ?_)
    obtain ⟨hu, er_7⟩ := hw_8
    subst hu
    refine ur_eq (y := xHears (M.1 1 6) (M.1 1 7) (M.1 7 4)) er_7 ?_
    exact ur_iret C h hr hlocks (⟨rfl, by unfold xCount; rw [if_neg c_1]; rw [if_neg c_2]; rw [if_neg c_3]; rw [if_neg c_4]; rw [if_neg c_5]; rw [if_pos c_6]; try rfl⟩) dX6_count_120
  rcases Decidable.em (x1 = 6) with c_9 | c_9
  · skip
    refine lv_tableIn (off := 120) (tgt := 121) hx hb dX6_count_1 (by rw [c_9]; decide) (by rw [c_9]; decide) (by rw [c_9]; rfl) (by decide) ?_
    refine lv_aload_n hx hb dX6_count_121 rfl (lv_at hl 0 rfl) ?_
    refine ur_get C h 0 (by decide) (uc_0 E _) (Cn := RX6) (T := TX6) (N := 6) rfl hin6 0 (by decide) (by decide +kernel) rfl dX6_count_122 ?_
    refine lv_iconst (v := 0) hx hb dX6_count_125 (by decide) ?_
    refine ur_callVi C h (k := 1) (As := [.int 0]) (rest := []) (k_X1_allWhoAre l E hI M 0 n hn hn6) (cwV 1 hts gX6_count_X1_allWhoAre rfl rfl rfl (by decide +kernel) ⟨Nat.le_of_ble_eq_true rfl, Nat.le_of_ble_eq_true rfl⟩) (by decide) (uc_1 E _) (T := TX1) (N := 11) rfl rfl hl.1 rfl (Nat.le_of_ble_eq_true rfl) dX6_count_126 (fun r_10 M_11 H locs hw_11 h => ?_)
    obtain ⟨hu, er_10⟩ := hw_11
    subst hu
    refine ur_eq (y := nI (xThose M n 0)) er_10 ?_
    exact ur_iret C h hr hlocks (⟨rfl, by unfold xCount; rw [if_neg c_1]; rw [if_neg c_2]; rw [if_neg c_3]; rw [if_neg c_4]; rw [if_neg c_5]; rw [if_neg c_6]; rw [if_pos c_9]; try rfl⟩) dX6_count_129
  rcases Decidable.em (x1 = 7) with c_12 | c_12
  · skip
    refine lv_tableIn (off := 129) (tgt := 130) hx hb dX6_count_1 (by rw [c_12]; decide) (by rw [c_12]; decide) (by rw [c_12]; rfl) (by decide) ?_
    refine lv_aload_n hx hb dX6_count_130 rfl (lv_at hl 0 rfl) ?_
    refine ur_get C h 0 (by decide) (uc_0 E _) (Cn := RX6) (T := TX6) (N := 6) rfl hin6 0 (by decide) (by decide +kernel) rfl dX6_count_131 ?_
    refine lv_iconst (v := 1) hx hb dX6_count_134 (by decide) ?_
    refine ur_callVi C h (k := 1) (As := [.int 1]) (rest := []) (k_X1_allWhoAre l E hI M 1 n hn hn6) (cwV 1 hts gX6_count_X1_allWhoAre rfl rfl rfl (by decide +kernel) ⟨Nat.le_of_ble_eq_true rfl, Nat.le_of_ble_eq_true rfl⟩) (by decide) (uc_1 E _) (T := TX1) (N := 11) rfl rfl hl.1 rfl (Nat.le_of_ble_eq_true rfl) dX6_count_135 (fun r_13 M_14 H locs hw_14 h => ?_)
    obtain ⟨hu, er_13⟩ := hw_14
    subst hu
    refine ur_eq (y := nI (xThose M n 1)) er_13 ?_
    exact ur_iret C h hr hlocks (⟨rfl, by unfold xCount; rw [if_neg c_1]; rw [if_neg c_2]; rw [if_neg c_3]; rw [if_neg c_4]; rw [if_neg c_5]; rw [if_neg c_6]; rw [if_neg c_9]; rw [if_pos c_12]; try rfl⟩) dX6_count_138
  rcases Decidable.em (x1 = 8) with c_15 | c_15
  · skip
    refine lv_tableIn (off := 138) (tgt := 139) hx hb dX6_count_1 (by rw [c_15]; decide) (by rw [c_15]; decide) (by rw [c_15]; rfl) (by decide) ?_
    refine lv_aload_n hx hb dX6_count_139 rfl (lv_at hl 0 rfl) ?_
    refine ur_get C h 0 (by decide) (uc_0 E _) (Cn := RX6) (T := TX6) (N := 6) rfl hin6 0 (by decide) (by decide +kernel) rfl dX6_count_140 ?_
    refine lv_iconst (v := 2) hx hb dX6_count_143 (by decide) ?_
    refine ur_callVi C h (k := 1) (As := [.int 2]) (rest := []) (k_X1_allWhoAre l E hI M 2 n hn hn6) (cwV 1 hts gX6_count_X1_allWhoAre rfl rfl rfl (by decide +kernel) ⟨Nat.le_of_ble_eq_true rfl, Nat.le_of_ble_eq_true rfl⟩) (by decide) (uc_1 E _) (T := TX1) (N := 11) rfl rfl hl.1 rfl (Nat.le_of_ble_eq_true rfl) dX6_count_144 (fun r_16 M_17 H locs hw_17 h => ?_)
    obtain ⟨hu, er_16⟩ := hw_17
    subst hu
    refine ur_eq (y := nI (xThose M n 2)) er_16 ?_
    exact ur_iret C h hr hlocks (⟨rfl, by unfold xCount; rw [if_neg c_1]; rw [if_neg c_2]; rw [if_neg c_3]; rw [if_neg c_4]; rw [if_neg c_5]; rw [if_neg c_6]; rw [if_neg c_9]; rw [if_neg c_12]; rw [if_pos c_15]; try rfl⟩) dX6_count_147
  rcases Decidable.em (x1 = 9) with c_18 | c_18
  · skip
    refine lv_tableIn (off := 147) (tgt := 148) hx hb dX6_count_1 (by rw [c_18]; decide) (by rw [c_18]; decide) (by rw [c_18]; rfl) (by decide) ?_
    refine lv_aload_n hx hb dX6_count_148 rfl (lv_at hl 0 rfl) ?_
    refine ur_get C h 0 (by decide) (uc_0 E _) (Cn := RX6) (T := TX6) (N := 6) rfl hin6 0 (by decide) (by decide +kernel) rfl dX6_count_149 ?_
    refine ur_get C h 1 (by decide) (uc_1 E _) (Cn := RX1) (T := TX1) (N := 11) rfl hin1 8 (by decide) (by decide +kernel) rfl dX6_count_152 ?_
    refine ur_get C h 7 (by decide) (uc_7 E _) (Cn := RX3) (T := TX3) (N := 6) rfl hin3 3 (by decide) (by decide +kernel) rfl dX6_count_155 ?_
    refine ur_get C h 11 (by decide) (uc_11 E _) (Cn := RX0) (T := TX0) (N := 4) rfl hin0 0 (by decide) (by decide +kernel) rfl dX6_count_158 ?_
    exact ur_iret C h hr hlocks (⟨rfl, by unfold xCount; rw [if_neg c_1]; rw [if_neg c_2]; rw [if_neg c_3]; rw [if_neg c_4]; rw [if_neg c_5]; rw [if_neg c_6]; rw [if_neg c_9]; rw [if_neg c_12]; rw [if_neg c_15]; rw [if_pos c_18]; try rfl⟩) dX6_count_161
  rcases Decidable.em (x1 = 10) with c_19 | c_19
  · skip
    refine lv_tableIn (off := 161) (tgt := 162) hx hb dX6_count_1 (by rw [c_19]; decide) (by rw [c_19]; decide) (by rw [c_19]; rfl) (by decide) ?_
    refine lv_aload_n hx hb dX6_count_162 rfl (lv_at hl 0 rfl) ?_
    refine ur_get C h 0 (by decide) (uc_0 E _) (Cn := RX6) (T := TX6) (N := 6) rfl hin6 0 (by decide) (by decide +kernel) rfl dX6_count_163 ?_
    refine ur_get C h 1 (by decide) (uc_1 E _) (Cn := RX1) (T := TX1) (N := 11) rfl hin1 10 (by decide) (by decide +kernel) rfl dX6_count_166 ?_
    exact ur_iret C h hr hlocks (⟨rfl, by unfold xCount; rw [if_neg c_1]; rw [if_neg c_2]; rw [if_neg c_3]; rw [if_neg c_4]; rw [if_neg c_5]; rw [if_neg c_6]; rw [if_neg c_9]; rw [if_neg c_12]; rw [if_neg c_15]; rw [if_neg c_18]; rw [if_pos c_19]; try rfl⟩) dX6_count_169
  have hsw_20 : x1.toInt < 0 ∨ 10 < x1.toInt := uo_sw 0 10 (fun k hk1 hk2 => by
      have hk : k = 0 ∨ k = 1 ∨ k = 2 ∨ k = 3 ∨ k = 4 ∨ k = 5 ∨ k = 6 ∨ k = 7 ∨ k = 8 ∨ k = 9 ∨ k = 10 := by omega
      rcases hk with rfl | rfl | rfl | rfl | rfl | rfl | rfl | rfl | rfl | rfl | rfl
      · exact lv_neT c_1 (by decide)
      · exact lv_neT c_2 (by decide)
      · exact lv_neT c_3 (by decide)
      · exact lv_neT c_4 (by decide)
      · exact lv_neT c_5 (by decide)
      · exact lv_neT c_6 (by decide)
      · exact lv_neT c_9 (by decide)
      · exact lv_neT c_12 (by decide)
      · exact lv_neT c_15 (by decide)
      · exact lv_neT c_18 (by decide)
      · exact lv_neT c_19 (by decide))
  refine lv_tableOut (tgt := 170) hx hb dX6_count_1 hsw_20 (by decide) ?_
  refine lv_iconst (v := (-1)) hx hb dX6_count_170 (by decide) ?_
  exact ur_iret C h hr hlocks (⟨rfl, by unfold xCount; rw [if_neg c_1]; rw [if_neg c_2]; rw [if_neg c_3]; rw [if_neg c_4]; rw [if_neg c_5]; rw [if_neg c_6]; rw [if_neg c_9]; rw [if_neg c_12]; rw [if_neg c_15]; rw [if_neg c_18]; rw [if_neg c_19]; try rfl⟩) dX6_count_171
set_option maxHeartbeats 1000000 in
set_option maxRecDepth 100000 in
theorem k_X6_worn (l : Launch) (E : uE) (hI : uI E) (M : uM) (x1 x2 : Int32) (nw : Nat) (hnw : M.1 1 4 = nI nw) (hnw6 : nw ≤ 6) : Met l yX6_worn wsX6_worn ({ frames := 2, cells := 0, slots := 0, locals := 43 }) (va_Pc [.ref (E.2.1 0), .int x1, .int x2] (uB E M)) (va_Qi (fun r u => M = u ∧ r = if (0 ≤ x1.toInt ∧ x1.toInt < nw) ∧ (0 ≤ x2.toInt ∧ x2.toInt ≤ 1) then (if x2 = 0 then M.1 5 (tn x1) else M.1 10 (tn x1)) else -1) (uP E) (uA E)) 0 0 (uA E) := by
  have hin1 : ∀ w ∈ wsX10, w ∈ wsX6_worn := by decide +kernel
  have hin3 : ∀ w ∈ wsX30, w ∈ wsX6_worn := by decide +kernel
  have hin6 : ∀ w ∈ wsX60, w ∈ wsX6_worn := by decide +kernel
  refine u_start (cc := cX6_worn) (maxL := 3) (ret := (some .int)) hI (by decide) rfl (Nat.le_of_ble_eq_true rfl) ?_
  intro p_ e_ s_ m_ bl_ me_ c_ C hr hlocks h ls hl
  have hx := C.1.1
  have hb := C.1.2.1
  have hown : s_.vm.findClass RX6 = some m_.cls := C.1.2.2.2.1
  have hts := C.1.2.2.2.2
  have hl : lv_has ls 3 [(0, .ref (E.2.1 0)), (1, .int x1), (2, .int x2)] := hl
  refine lv_aload_n hx hb dX6_worn_0 rfl (lv_at hl 0 rfl) ?_
  refine lv_iload_n hx hb dX6_worn_1 rfl (lv_at hl 1 rfl) ?_
  refine ur_callVi C h (k := 0) (As := [.int x1]) (rest := []) (k_X6_isWord l E hI M x1 nw hnw hnw6) (cwV 1 hts gX6_worn_X6_isWord rfl rfl rfl (by decide +kernel) ⟨Nat.le_of_ble_eq_true rfl, Nat.le_of_ble_eq_true rfl⟩) (by decide) (uc_0 E _) (T := TX6) (N := 6) rfl rfl hl.1 rfl (Nat.le_of_ble_eq_true rfl) dX6_worn_2 (fun r_1 M_2 H locs hw_2 h => ?_)
  obtain ⟨hu, er_1⟩ := hw_2
  subst hu
  refine lv_if_eq (tgt := 17) hx hb dX6_worn_5 (by decide) (fun c_3 => ?_) (fun c_3 => ?_)
  · skip
    have c_3 : ¬ (0 ≤ x1.toInt ∧ x1.toInt < nw) := uz_f er_1 c_3
    refine lv_iconst (v := (-1)) hx hb dX6_worn_17 (by decide) ?_
    exact ur_iret C h hr hlocks (⟨rfl, by rw [if_neg (by omega)]⟩) dX6_worn_18
  · skip
    have c_3 : 0 ≤ x1.toInt ∧ x1.toInt < nw := uz_t er_1 c_3
    refine lv_iload_n hx hb dX6_worn_8 rfl (lv_at hl 2 rfl) ?_
    refine lv_iconst (v := 0) hx hb dX6_worn_9 (by decide) ?_
    refine lv_iconst (v := 1) hx hb dX6_worn_10 (by decide) ?_
    refine ur_callSi C h (As := [.int x2, .int 0, .int 1]) (rest := []) (k_X6_isIn l E hI M x2 0 1) (va_cwS 3 hts gX6_worn_X6_isIn rfl rfl rfl (by decide +kernel) ⟨Nat.le_of_ble_eq_true rfl, Nat.le_of_ble_eq_true rfl⟩) rfl hl.1 rfl (Nat.le_of_ble_eq_true rfl) dX6_worn_11 (fun r_4 M_5 H locs hw_5 h => ?_)
    obtain ⟨hu, er_4⟩ := hw_5
    subst hu
    have er_4 : r_4 = if 0 ≤ x2.toInt ∧ x2.toInt ≤ 1 then 1 else 0 := u_in32 (x := x2.toInt) rfl rfl rfl er_4
    refine lv_if_ne (tgt := 19) hx hb dX6_worn_14 (by decide) (fun c_6 => ?_) (fun c_6 => ?_)
    · skip
      have c_6 : 0 ≤ x2.toInt ∧ x2.toInt ≤ 1 := uz_t er_4 c_6
      obtain ⟨hnx1, enx1⟩ := u_tn c_3 (by omega)
      refine lv_iload_n hx hb dX6_worn_19 rfl (lv_at hl 2 rfl) ?_
      refine lv_if_ne (tgt := 35) hx hb dX6_worn_20 (by decide) (fun c_7 => ?_) (fun c_7 => ?_)
      · skip
        refine lv_aload_n hx hb dX6_worn_35 rfl (lv_at hl 0 rfl) ?_
        refine ur_get C h 0 (by decide) (uc_0 E _) (Cn := RX6) (T := TX6) (N := 6) rfl hin6 0 (by decide) (by decide +kernel) rfl dX6_worn_36 ?_
        refine ur_get C h 1 (by decide) (uc_1 E _) (Cn := RX1) (T := TX1) (N := 11) rfl hin1 8 (by decide) (by decide +kernel) rfl dX6_worn_39 ?_
        refine ur_get C h 7 (by decide) (uc_7 E _) (Cn := RX3) (T := TX3) (N := 6) rfl hin3 2 (by decide) (by decide +kernel) rfl dX6_worn_42 ?_
        refine lv_iload_n hx hb dX6_worn_45 rfl (lv_at hl 1 rfl) ?_
        refine ur_eq (y := nI (tn x1)) enx1 ?_
        refine ur_iald C h 10 (by decide) (uc_10 E _) (tn x1) (by omega) (by decide) dX6_worn_46 ?_
        exact ur_iret C h hr hlocks (⟨rfl, by rw [if_pos (by omega), if_neg c_7]⟩) dX6_worn_47
      · skip
        refine lv_aload_n hx hb dX6_worn_23 rfl (lv_at hl 0 rfl) ?_
        refine ur_get C h 0 (by decide) (uc_0 E _) (Cn := RX6) (T := TX6) (N := 6) rfl hin6 0 (by decide) (by decide +kernel) rfl dX6_worn_24 ?_
        refine ur_get C h 1 (by decide) (uc_1 E _) (Cn := RX1) (T := TX1) (N := 11) rfl hin1 5 (by decide) (by decide +kernel) rfl dX6_worn_27 ?_
        refine lv_iload_n hx hb dX6_worn_30 rfl (lv_at hl 1 rfl) ?_
        refine ur_eq (y := nI (tn x1)) enx1 ?_
        refine ur_iald C h 5 (by decide) (uc_5 E _) (tn x1) (by omega) (by decide) dX6_worn_31 ?_
        refine lv_goto (tgt := 47) hx hb dX6_worn_32 (by decide) ?_
        exact ur_iret C h hr hlocks (⟨rfl, by rw [if_pos (by omega), if_pos c_7]⟩) dX6_worn_47
    · skip
      have c_6 : ¬ (0 ≤ x2.toInt ∧ x2.toInt ≤ 1) := uz_f er_4 c_6
      refine lv_iconst (v := (-1)) hx hb dX6_worn_17 (by decide) ?_
      exact ur_iret C h hr hlocks (⟨rfl, by rw [if_neg (by omega)]⟩) dX6_worn_18
