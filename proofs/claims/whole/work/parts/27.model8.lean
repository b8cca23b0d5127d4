set_option maxHeartbeats 4000000 in
set_option maxRecDepth 100000 in
theorem k_X7_line (l : Launch) (E : uE) (hI : uI E) (M : uM) (x1 x2 : Int32) (n : Nat) (hn : M.1 252 0 = nI n) (hn6 : n ≤ 6) (nw : Nat) (hnw : M.1 252 1 = nI nw) (hnw6 : nw ≤ 6) (ht : ¬ M.1 252 3 = 0) : Met l yX7_line wsX7_line ({ frames := 3, cells := 0, slots := 0, locals := 77 }) (va_Pc [.ref (E.2.1 251), .int x1, .int x2] (uB E M)) (va_Qi (fun r u => if (0 ≤ x1.toInt ∧ x1.toInt < nw) ∧ -1 ≤ x2 then u = uRow M 257 (mLT M (tn x1) n) ∧ r = mLine M n nw x1 x2 else r = -1 ∧ M = u) (uP E) (uA E)) 0 0 (uA E) := by
  have hin7 : ∀ w ∈ wsX70, w ∈ wsX7_line := by decide +kernel
  refine u_start (cc := cX7_line) (maxL := 10) (ret := (some .int)) hI (by decide) rfl (Nat.le_of_ble_eq_true rfl) ?_
  intro p_ e_ s_ m_ bl_ me_ c_ C hr hlocks h ls hl
  have hx := C.1.1
  have hb := C.1.2.1
  have hown : s_.vm.findClass RX7 = some m_.cls := C.1.2.2.2.1
  have hts := C.1.2.2.2.2
  have hl : lv_has ls 10 [(0, .ref (E.2.1 251)), (1, .int x1), (2, .int x2)] := hl
  refine lv_aload_n hx hb dX7_line_0 rfl (lv_at hl 0 rfl) ?_
  refine lv_iload_n hx hb dX7_line_1 rfl (lv_at hl 1 rfl) ?_
  refine ur_callVi C h (k := 251) (As := [.int x1]) (rest := []) (k_X7_isWord l E hI M x1 nw hnw hnw6) (cwV 1 hts gX7_line_X7_isWord rfl rfl rfl (by decide +kernel) ⟨Nat.le_of_ble_eq_true rfl, Nat.le_of_ble_eq_true rfl⟩) (by decide) (uc_251 E _) (T := TX7) (N := 17) rfl rfl hl.1 rfl (Nat.le_of_ble_eq_true rfl) dX7_line_2 (fun r_1 M_2 H locs hw_2 h => ?_)
  obtain ⟨hu, er_1⟩ := hw_2
  subst hu
  refine lv_if_eq (tgt := 13) hx hb dX7_line_5 (by decide) (fun c_3 => ?_) (fun c_3 => ?_)
  · skip
    have c_3 : ¬ (0 ≤ x1.toInt ∧ x1.toInt < nw) := uz_f er_1 c_3
    refine lv_iconst (v := (-1)) hx hb dX7_line_13 (by decide) ?_
    exact ur_iret C h hr hlocks (by rw [if_neg (fun z => by first | exact absurd z.1 (by assumption) | exact absurd z.2 (by assumption))]; exact ⟨rfl, rfl⟩) dX7_line_14
  · skip
    have c_3 : 0 ≤ x1.toInt ∧ x1.toInt < nw := uz_t er_1 c_3
    refine lv_iload_n hx hb dX7_line_8 rfl (lv_at hl 2 rfl) ?_
    refine lv_iconst (v := (-1)) hx hb dX7_line_9 (by decide) ?_
    refine lv_icmp_ge (tgt := 15) hx hb dX7_line_10 (by decide) (fun c_4 => ?_) (fun c_4 => ?_)
    · skip
      obtain ⟨hnx1, enx1⟩ := u_tn c_3 (by omega)
      obtain ⟨hal, hal6⟩ := mThose_lt (M := M) (x := 0) hn6
      refine lv_aload_n hx hb dX7_line_15 rfl (lv_at hl 0 rfl) ?_
      refine lv_iconst (v := 0) hx hb dX7_line_16 (by decide) ?_
      refine ur_callVi C h (k := 251) (As := [.int 0]) (rest := []) (k_X7_those l E hI M 0 n hn hn6) (cwV 1 hts gX7_line_X7_those rfl rfl rfl (by decide +kernel) ⟨Nat.le_of_ble_eq_true rfl, Nat.le_of_ble_eq_true rfl⟩) (by decide) (uc_251 E _) (T := TX7) (N := 17) rfl rfl hl.1 rfl (Nat.le_of_ble_eq_true rfl) dX7_line_17 (fun r_5 M_6 H locs hw_6 h => ?_)
      obtain ⟨hu, er_5⟩ := hw_6
      subst hu
      refine ur_eq (y := nI (mThose M n 0)) er_5 ?_
      refine lv_istore_n (lv' := [(3, .int (nI (mThose M n 0))), (0, .ref (E.2.1 251)), (1, .int x1), (2, .int x2)]) hx hb dX7_line_20 rfl hl (by decide) rfl (fun ls hl => ?_)
      refine lv_iload_n hx hb dX7_line_21 rfl (lv_at hl 0 rfl) ?_
      refine ur_callSi C h (As := [.int (nI (mThose M n 0))]) (rest := []) (k_X7_many l E hI M (mThose M n 0) (by omega)) (va_cwS 1 hts gX7_line_X7_many rfl rfl rfl (by decide +kernel) ⟨Nat.le_of_ble_eq_true rfl, Nat.le_of_ble_eq_true rfl⟩) rfl hl.1 rfl (Nat.le_of_ble_eq_true rfl) dX7_line_22 (fun r_7 M_8 H locs hw_8 h => ?_)
      obtain ⟨hu, er_7⟩ := hw_8
      subst hu
      refine ur_eq (y := nI (pop (mThose M n 0))) er_7 ?_
      have hpr_7 : pop (mThose M n 0) ≤ 6 := pop6 (by omega)
      refine lv_istore (lv' := [(4, .int (nI (pop (mThose M n 0)))), (3, .int (nI (mThose M n 0))), (0, .ref (E.2.1 251)), (1, .int x1), (2, .int x2)]) hx hb dX7_line_25 hl (by decide) rfl (fun ls hl => ?_)
      refine lv_iconst (v := 0) hx hb dX7_line_27 (by decide) ?_
      refine lv_istore (lv' := [(5, .int 0), (4, .int (nI (pop (mThose M n 0)))), (3, .int (nI (mThose M n 0))), (0, .ref (E.2.1 251)), (1, .int x1), (2, .int x2)]) hx hb dX7_line_28 hl (by decide) rfl (fun ls hl => ?_)
      have lp30 : ∀ (n30 : Nat) (i : Nat) (Mi : uM), (mThose M n 0) + 1 - i < n30 → i ≤ (mThose M n 0) + 1 → Mi = uRow M 257 (mTab M (tn x1) n (mThose M n 0) i) → ∀ (H : Heap) (locs : List Loc) (ls : Array Slot), uH E Mi s_ H locs → lv_has ls 10 [(5, .int (nI i)), (4, .int (nI (pop (mThose M n 0)))), (3, .int (nI (mThose M n 0))), (0, .ref (E.2.1 251)), (1, .int x1), (2, .int x2)] → W p_ l e_ ({ frames := 3, cells := 0, slots := 0, locals := 77 }) s_ m_ (List.toArray [.ref (E.2.1 251), .int x1, .int x2]) bl_ me_ c_ H locs 0 0 (MQ bl_ (va_Qi (fun r u => if (0 ≤ x1.toInt ∧ x1.toInt < nw) ∧ -1 ≤ x2 then u = uRow M 257 (mLT M (tn x1) n) ∧ r = mLine M n nw x1 x2 else r = -1 ∧ M = u) (uP E) (uA E)) (List.toArray [.ref (E.2.1 251), .int x1, .int x2]) s_ 0 0 (uA E)) (F0 m_ 30 ls []) := by
        intro n30
        induction n30 with
        | zero => intro i Mi hms; exact absurd hms (Nat.not_lt_zero _)
        | succ n30 ih30 =>
          intro i Mi hms30 hi hMi H locs ls h hl
          refine lv_iload hx hb dX7_line_30 (lv_at hl 0 rfl) ?_
          refine lv_iload_n hx hb dX7_line_32 rfl (lv_at hl 2 rfl) ?_
          refine lv_icmp_gt (tgt := 186) hx hb dX7_line_33 (by decide) (fun c_9 => ?_) (fun c_9 => ?_)
          · skip
            have c_9 : (mThose M n 0) < i := (nI_ltI (a := (mThose M n 0)) (b := i) (by omega) (by omega)).mp c_9
            have hi1 : i = (mThose M n 0) + 1 := by omega
            rw [hi1] at hMi
            refine lv_iload_n hx hb dX7_line_186 rfl (lv_at hl 5 rfl) ?_
            refine lv_if_ge (tgt := 197) hx hb dX7_line_187 (by decide) (fun c_10 => ?_) (fun c_10 => ?_)
            · skip
              obtain ⟨hnx2, enx2⟩ := u_tn0 c_10
              refine lv_iload_n hx hb dX7_line_197 rfl (lv_at hl 2 rfl) ?_
              refine lv_istore (lv' := [(5, .int (nI (mThose M n 0))), (4, .int (nI (pop (mThose M n 0)))), (3, .int (nI (mThose M n 0))), (0, .ref (E.2.1 251)), (1, .int x1), (2, .int x2)]) hx hb dX7_line_198 hl (by decide) rfl (fun ls hl => ?_)
              refine lv_bipush (v := (-4)) hx hb dX7_line_200 (by decide) ?_
              refine lv_istore (lv' := [(6, .int (-4)), (5, .int (nI (mThose M n 0))), (4, .int (nI (pop (mThose M n 0)))), (3, .int (nI (mThose M n 0))), (0, .ref (E.2.1 251)), (1, .int x1), (2, .int x2)]) hx hb dX7_line_202 hl (by decide) rfl (fun ls hl => ?_)
              refine lv_iconst (v := 0) hx hb dX7_line_204 (by decide) ?_
              refine lv_istore (lv' := [(7, .int 0), (6, .int (-4)), (5, .int (nI (mThose M n 0))), (4, .int (nI (pop (mThose M n 0)))), (3, .int (nI (mThose M n 0))), (0, .ref (E.2.1 251)), (1, .int x1), (2, .int x2)]) hx hb dX7_line_205 hl (by decide) rfl (fun ls hl => ?_)
              have lp207 : ∀ (n207 : Nat) (t2 lf : Nat) (fd : Int32), pop (mThose M n 0) - t2 < n207 → lf < 64 → uSub lf (mThose M n 0) → pop lf + t2 = pop (mThose M n 0) → t2 ≤ tn x2 + 1 → (lf, fd) = mLft M (tn x1) n (mLT M (tn x1) n) (mThose M n 0) t2 → ∀ (H : Heap) (locs : List Loc) (ls : Array Slot), uH E Mi s_ H locs → lv_has ls 10 [(7, .int (nI t2)), (6, .int fd), (5, .int (nI lf)), (4, .int (nI (pop (mThose M n 0)))), (3, .int (nI (mThose M n 0))), (0, .ref (E.2.1 251)), (1, .int x1), (2, .int x2)] → W p_ l e_ ({ frames := 3, cells := 0, slots := 0, locals := 77 }) s_ m_ (List.toArray [.ref (E.2.1 251), .int x1, .int x2]) bl_ me_ c_ H locs 0 0 (MQ bl_ (va_Qi (fun r u => if (0 ≤ x1.toInt ∧ x1.toInt < nw) ∧ -1 ≤ x2 then u = uRow M 257 (mLT M (tn x1) n) ∧ r = mLine M n nw x1 x2 else r = -1 ∧ M = u) (uP E) (uA E)) (List.toArray [.ref (E.2.1 251), .int x1, .int x2]) s_ 0 0 (uA E)) (F0 m_ 207 ls []) := by
                intro n207
                induction n207 with
                | zero => intro t2 lf fd hms; exact absurd hms (Nat.not_lt_zero _)
                | succ n207 ih207 =>
                  intro t2 lf fd hms207 hlf hsub hpop htk hbl H locs ls h hl
                  refine lv_iload hx hb dX7_line_207 (lv_at hl 0 rfl) ?_
                  refine lv_iload_n hx hb dX7_line_209 rfl (lv_at hl 7 rfl) ?_
                  refine ur_eq (y := nI (tn x2)) enx2 ?_
                  refine lv_icmp_gt (tgt := 344) hx hb dX7_line_210 (by decide) (fun c_11 => ?_) (fun c_11 => ?_)
                  · skip
                    have c_11 : (tn x2) < t2 := (nI_ltI (a := (tn x2)) (b := t2) (by omega) (by omega)).mp c_11
                    refine lv_iload_n hx hb dX7_line_344 rfl (lv_at hl 7 rfl) ?_
                    refine ur_eq (y := nI (tn x2)) enx2 ?_
                    refine lv_iload hx hb dX7_line_345 (lv_at hl 3 rfl) ?_
                    refine lv_icmp_ge (tgt := 355) hx hb dX7_line_347 (by decide) (fun c_12 => ?_) (fun c_12 => ?_)
                    · skip
                      have c_12 : (pop (mThose M n 0)) ≤ (tn x2) := (nI_leI (a := (pop (mThose M n 0))) (b := (tn x2)) (by omega) (by omega)).mp c_12
                      refine lv_bipush (v := (-4)) hx hb dX7_line_355 (by decide) ?_
                      exact ur_iret C h hr hlocks (by rw [if_pos ⟨by assumption, by assumption⟩]; refine ⟨hMi, ?_⟩; unfold mLine; rw [if_pos ⟨by assumption, by assumption⟩, if_pos (by assumption), if_pos (by omega)]) dX7_line_357
                    · skip
                      have c_12 : ¬ (pop (mThose M n 0)) ≤ (tn x2) := fun z => c_12 ((nI_leI (a := (pop (mThose M n 0))) (b := (tn x2)) (by omega) (by omega)).mpr z)
                      refine lv_iload hx hb dX7_line_350 (lv_at hl 1 rfl) ?_
                      refine lv_goto (tgt := 357) hx hb dX7_line_352 (by decide) ?_
                      exact ur_iret C h hr hlocks (by rw [if_pos ⟨by assumption, by assumption⟩]; refine ⟨hMi, ?_⟩; unfold mLine; rw [if_pos ⟨by assumption, by assumption⟩, if_pos (by assumption), if_neg (by omega), ← show t2 = tn x2 + 1 by omega, ← hbl]) dX7_line_357
                  · skip
                    have c_11 : ¬ (tn x2) < t2 := fun z => c_11 ((nI_ltI (a := (tn x2)) (b := t2) (by omega) (by omega)).mpr z)
                    refine lv_iload hx hb dX7_line_213 (lv_at hl 0 rfl) ?_
                    refine lv_iload hx hb dX7_line_215 (lv_at hl 3 rfl) ?_
                    refine lv_icmp_ge (tgt := 344) hx hb dX7_line_217 (by decide) (fun c_13 => ?_) (fun c_13 => ?_)
                    · skip
                      have c_13 : (pop (mThose M n 0)) ≤ t2 := (nI_leI (a := (pop (mThose M n 0))) (b := t2) (by omega) (by omega)).mp c_13
                      refine lv_iload_n hx hb dX7_line_344 rfl (lv_at hl 7 rfl) ?_
                      refine ur_eq (y := nI (tn x2)) enx2 ?_
                      refine lv_iload hx hb dX7_line_345 (lv_at hl 3 rfl) ?_
                      refine lv_icmp_ge (tgt := 355) hx hb dX7_line_347 (by decide) (fun c_14 => ?_) (fun c_14 => ?_)
                      · skip
                        have c_14 : (pop (mThose M n 0)) ≤ (tn x2) := (nI_leI (a := (pop (mThose M n 0))) (b := (tn x2)) (by omega) (by omega)).mp c_14
                        refine lv_bipush (v := (-4)) hx hb dX7_line_355 (by decide) ?_
                        exact ur_iret C h hr hlocks (by rw [if_pos ⟨by assumption, by assumption⟩]; refine ⟨hMi, ?_⟩; unfold mLine; rw [if_pos ⟨by assumption, by assumption⟩, if_pos (by assumption), if_pos (by omega)]) dX7_line_357
                      · skip
                        have c_14 : ¬ (pop (mThose M n 0)) ≤ (tn x2) := fun z => c_14 ((nI_leI (a := (pop (mThose M n 0))) (b := (tn x2)) (by omega) (by omega)).mpr z)
                        refine lv_iload hx hb dX7_line_350 (lv_at hl 1 rfl) ?_
                        refine lv_goto (tgt := 357) hx hb dX7_line_352 (by decide) ?_
                        exact ur_iret C h hr hlocks (by rw [if_pos ⟨by assumption, by assumption⟩]; refine ⟨hMi, ?_⟩; unfold mLine; rw [if_pos ⟨by assumption, by assumption⟩, if_pos (by assumption), if_neg (by omega), ← show t2 = tn x2 + 1 by omega, ← hbl]) dX7_line_357
                    · skip
                      have c_13 : ¬ (pop (mThose M n 0)) ≤ t2 := fun z => c_13 ((nI_leI (a := (pop (mThose M n 0))) (b := t2) (by omega) (by omega)).mpr z)
                      refine lv_bipush (v := (-4)) hx hb dX7_line_220 (by decide) ?_
                      refine lv_istore (lv' := [(6, .int (-4)), (7, .int (nI t2)), (5, .int (nI lf)), (4, .int (nI (pop (mThose M n 0)))), (3, .int (nI (mThose M n 0))), (0, .ref (E.2.1 251)), (1, .int x1), (2, .int x2)]) hx hb dX7_line_222 hl (by decide) rfl (fun ls hl => ?_)
                      refine lv_aload_n hx hb dX7_line_224 rfl (lv_at hl 5 rfl) ?_
                      refine ur_get C h 251 (by decide) (uc_251 E _) (Cn := RX7) (T := TX7) (N := 17) rfl hin7 0 (by decide) (by decide +kernel) rfl dX7_line_225 ?_
                      refine lv_iconst (v := 0) hx hb dX7_line_228 (by decide) ?_
                      refine ur_iald C h 252 (by decide) (uc_252 E _) (0) (by decide) (by decide) dX7_line_229 ?_
                      refine ur_eq (y := nI n) ((by rw [hMi]; exact hn)) ?_
                      refine lv_iconst (v := 1) hx hb dX7_line_230 (by decide) ?_
                      refine lv_isub hx hb dX7_line_231 ?_
                      refine lv_istore (lv' := [(8, .int ((nI n) - 1)), (6, .int (-4)), (7, .int (nI t2)), (5, .int (nI lf)), (4, .int (nI (pop (mThose M n 0)))), (3, .int (nI (mThose M n 0))), (0, .ref (E.2.1 251)), (1, .int x1), (2, .int x2)]) hx hb dX7_line_232 hl (by decide) rfl (fun ls hl => ?_)
                      have lp234 : ∀ (n234 : Nat) (q8 : Nat) (f8 : Int32), q8 < n234 → q8 ≤ n → f8 = dF (mLg M (tn x1) (mLT M (tn x1) n) lf (nI t2)) n (n - q8) → ∀ (H : Heap) (locs : List Loc) (ls : Array Slot), uH E Mi s_ H locs → lv_has ls 10 [(8, .int (nI q8 - 1)), (6, .int f8), (7, .int (nI t2)), (5, .int (nI lf)), (4, .int (nI (pop (mThose M n 0)))), (3, .int (nI (mThose M n 0))), (0, .ref (E.2.1 251)), (1, .int x1), (2, .int x2)] → W p_ l e_ ({ frames := 3, cells := 0, slots := 0, locals := 77 }) s_ m_ (List.toArray [.ref (E.2.1 251), .int x1, .int x2]) bl_ me_ c_ H locs 0 0 (MQ bl_ (va_Qi (fun r u => if (0 ≤ x1.toInt ∧ x1.toInt < nw) ∧ -1 ≤ x2 then u = uRow M 257 (mLT M (tn x1) n) ∧ r = mLine M n nw x1 x2 else r = -1 ∧ M = u) (uP E) (uA E)) (List.toArray [.ref (E.2.1 251), .int x1, .int x2]) s_ 0 0 (uA E)) (F0 m_ 234 ls []) := by
                        intro n234
                        induction n234 with
                        | zero => intro q8 f8 hms; exact absurd hms (Nat.not_lt_zero _)
                        | succ n234 ih234 =>
                          intro q8 f8 hms234 hq8 hf8 H locs ls h hl
                          refine lv_iload hx hb dX7_line_234 (lv_at hl 0 rfl) ?_
                          refine lv_if_lt (tgt := 329) hx hb dX7_line_236 (by decide) (fun c_15 => ?_) (fun c_15 => ?_)
                          · skip
                            have hq0 : q8 = 0 := Decidable.byContradiction fun z => (u_p1 (by omega) z).2.1 c_15
                            have hlf0 : ¬ lf = 0 := fun z => by rw [z] at hpop; have : pop 0 = 0 := rfl; omega
                            obtain ⟨pf, hpf1, hpf2, hpf3, hpf4⟩ := mLg_ex (M := M) (w := tn x1) (n := n) (al := (mThose M n 0)) (lf := lf) (t := t2) hn6 hal hsub hlf hlf0 hpop
                            have hbit : ubit (nI lf) pf = true := by unfold mLg at hpf2; rw [Bool.and_eq_true] at hpf2; exact hpf2.1
                            have ef8 : f8 = nI pf := by rw [hf8, hq0]; exact hpf4
                            obtain ⟨hs1, hs2, hs3⟩ := sub1 (s := lf) (p := pf) hlf (by omega) hbit
                            have hs4 : lf - 2 ^ pf < 64 := Nat.lt_of_le_of_lt (Nat.sub_le _ _) hlf
                            refine lv_iload hx hb dX7_line_329 (lv_at hl 3 rfl) ?_
                            refine lv_iconst (v := 1) hx hb dX7_line_331 (by decide) ?_
                            refine lv_iload hx hb dX7_line_332 (lv_at hl 1 rfl) ?_
                            refine ur_eq (y := nI pf) ef8 ?_
                            refine lv_ishl hx hb dX7_line_334 ?_
                            refine lv_isub hx hb dX7_line_335 ?_
                            refine ur_eq (y := nI (lf - 2 ^ pf)) hs2 ?_
                            refine lv_istore (lv' := [(5, .int (nI (lf - 2 ^ pf))), (8, .int (nI q8 - 1)), (6, .int f8), (7, .int (nI t2)), (4, .int (nI (pop (mThose M n 0)))), (3, .int (nI (mThose M n 0))), (0, .ref (E.2.1 251)), (1, .int x1), (2, .int x2)]) hx hb dX7_line_336 hl (by decide) rfl (fun ls hl => ?_)
                            refine lv_iinc (v := nI (t2 + 1)) (lv' := [(7, .int (nI (t2 + 1))), (5, .int (nI (lf - 2 ^ pf))), (8, .int (nI q8 - 1)), (6, .int f8), (4, .int (nI (pop (mThose M n 0)))), (3, .int (nI (mThose M n 0))), (0, .ref (E.2.1 251)), (1, .int x1), (2, .int x2)]) hx hb dX7_line_338 hl (k := 3) rfl (nI_add t2 1) (by decide) rfl (fun ls hl => ?_)
                            refine lv_goto (tgt := 207) hx hb dX7_line_341 (by decide) ?_
                            exact ih207  (t2 + 1) (lf - 2 ^ pf) f8 (by omega) hs4 (sub2 hlf hal6 (by omega) hsub hbit).2 (by omega) (by omega) (by rw [mLft, ← hbl]; dsimp only; rw [show dF (mLg M (tn x1) (mLT M (tn x1) n) lf (nI t2)) n n = nI pf from hpf4, tn_nI (by omega), ← ef8]) _ _ _ h (lv_sub hl [0, 3, 1, 4, 5, 6, 7, 8] rfl)
                          · skip
                            have hq0 : ¬ q8 = 0 := fun z => c_15 (by rw [z]; decide)
                            refine lv_iload hx hb dX7_line_239 (lv_at hl 3 rfl) ?_
                            refine lv_iload hx hb dX7_line_241 (lv_at hl 0 rfl) ?_
                            refine ur_eq (y := nI (q8 - 1)) (u_p1 (by omega) hq0).1 ?_
                            refine lv_ishr hx hb dX7_line_243 ?_
                            refine lv_iconst (v := 1) hx hb dX7_line_244 (by decide) ?_
                            refine lv_iand hx hb dX7_line_245 ?_
                            refine lv_iconst (v := 1) hx hb dX7_line_246 (by decide) ?_
                            refine lv_icmp_ne (tgt := 323) hx hb dX7_line_247 (by decide) (fun c_16 => ?_) (fun c_16 => ?_)
                            · skip
                              refine lv_iinc (v := nI (q8 - 1) - 1) (lv' := [(8, .int (nI (q8 - 1) - 1)), (6, .int f8), (7, .int (nI t2)), (5, .int (nI lf)), (4, .int (nI (pop (mThose M n 0)))), (3, .int (nI (mThose M n 0))), (0, .ref (E.2.1 251)), (1, .int x1), (2, .int x2)]) hx hb dX7_line_323 hl (k := 0) rfl (u_p1 (by omega) hq0).2.2 (by decide) rfl (fun ls hl => ?_)
                              refine lv_goto (tgt := 234) hx hb dX7_line_326 (by decide) ?_
                              exact ih234  (q8 - 1) f8 (by omega) (by omega) (by subst hMi; rw [show n - (q8 - 1) = (n - q8) + 1 by omega, dF, show n - (n - q8 + 1) = q8 - 1 by omega, if_neg (show ¬ mLg M (tn x1) (mLT M (tn x1) n) lf (nI t2) (q8 - 1) = true from fun z => by unfold mLg at z; rw [Bool.and_eq_true] at z; exact c_16 (of_decide_eq_true z.1))]; exact hf8) _ _ _ h (lv_sub hl [0, 1, 2, 3, 4, 5, 6, 7, 8] rfl)
                            · skip
                              refine lv_aload_n hx hb dX7_line_250 rfl (lv_at hl 6 rfl) ?_
                              refine lv_iload hx hb dX7_line_251 (lv_at hl 0 rfl) ?_
                              refine ur_eq (y := nI (q8 - 1)) (u_p1 (by omega) hq0).1 ?_
                              refine lv_aload_n hx hb dX7_line_253 rfl (lv_at hl 6 rfl) ?_
                              refine lv_iload hx hb dX7_line_254 (lv_at hl 0 rfl) ?_
                              refine ur_eq (y := nI (q8 - 1)) (u_p1 (by omega) hq0).1 ?_
                              refine lv_iload_n hx hb dX7_line_256 rfl (lv_at hl 7 rfl) ?_
                              refine ur_eq (y := nI (tn x1)) enx1 ?_
                              refine lv_aload_n hx hb dX7_line_257 rfl (lv_at hl 6 rfl) ?_
                              refine ur_get C h 251 (by decide) (uc_251 E _) (Cn := RX7) (T := TX7) (N := 17) rfl hin7 0 (by decide) (by decide +kernel) rfl dX7_line_258 ?_
                              refine lv_iconst (v := 4) hx hb dX7_line_261 (by decide) ?_
                              refine ur_iald C h 252 (by decide) (uc_252 E _) (4) (by decide) (by decide) dX7_line_262 ?_
                              refine lv_iload hx hb dX7_line_263 (lv_at hl 2 rfl) ?_
                              refine lv_iadd hx hb dX7_line_265 ?_
                              refine lv_aload_n hx hb dX7_line_266 rfl (lv_at hl 6 rfl) ?_
                              refine lv_iload_n hx hb dX7_line_267 rfl (lv_at hl 7 rfl) ?_
                              refine ur_eq (y := nI (tn x1)) enx1 ?_
                              refine ur_callVi C h (k := 251) (As := [.int (nI (tn x1))]) (rest := [.int ((Mi.1 252 4) + (nI t2)), .int (nI (tn x1)), .int (nI (q8 - 1)), .ref (E.2.1 251), .int (nI (q8 - 1)), .ref (E.2.1 251)]) (k_X7_wornOf l E hI Mi (tn x1) (by omega)) (cwV 1 hts gX7_line_X7_wornOf rfl rfl rfl (by decide +kernel) ⟨Nat.le_of_ble_eq_true rfl, Nat.le_of_ble_eq_true rfl⟩) (by decide) (uc_251 E _) (T := TX7) (N := 17) rfl rfl hl.1 rfl (Nat.le_of_ble_eq_true rfl) dX7_line_268 (fun r_17 M_18 H locs hw_18 h => ?_)
                              obtain ⟨hu, er_17⟩ := hw_18
                              subst hu
                              refine ur_eq (y := Mi.1 252 (67 + 2 * (tn x1) + 1)) er_17 ?_
                              refine lv_iload hx hb dX7_line_271 (lv_at hl 2 rfl) ?_
                              refine lv_iadd hx hb dX7_line_273 ?_
                              refine lv_aload_n hx hb dX7_line_274 rfl (lv_at hl 6 rfl) ?_
                              refine lv_iload hx hb dX7_line_275 (lv_at hl 0 rfl) ?_
                              refine ur_eq (y := nI (q8 - 1)) (u_p1 (by omega) hq0).1 ?_
                              refine lv_iconst (v := 3) hx hb dX7_line_277 (by decide) ?_
                              refine ur_callVi C h (k := 251) (As := [.int (nI (q8 - 1)), .int 3]) (rest := [.int ((Mi.1 252 (67 + 2 * (tn x1) + 1)) + (nI t2)), .int ((Mi.1 252 4) + (nI t2)), .int (nI (tn x1)), .int (nI (q8 - 1)), .ref (E.2.1 251), .int (nI (q8 - 1)), .ref (E.2.1 251)]) (k_X7_told l E hI Mi (q8 - 1) 3 (by omega)) (cwV 2 hts gX7_line_X7_told rfl rfl rfl (by decide +kernel) ⟨Nat.le_of_ble_eq_true rfl, Nat.le_of_ble_eq_true rfl⟩) (by decide) (uc_251 E _) (T := TX7) (N := 17) rfl rfl hl.1 rfl (Nat.le_of_ble_eq_true rfl) dX7_line_278 (fun r_19 M_20 H locs hw_20 h => ?_)
                              obtain ⟨hu, er_19⟩ := hw_20
                              subst hu
                              refine ur_eq (y := Mi.1 252 (7 + 10 * (q8 - 1) + 3)) er_19 ?_
                              refine ur_callVi C h (k := 251) (As := [.int (nI (q8 - 1)), .int (nI (tn x1)), .int ((Mi.1 252 4) + (nI t2)), .int ((Mi.1 252 (67 + 2 * (tn x1) + 1)) + (nI t2)), .int (Mi.1 252 (7 + 10 * (q8 - 1) + 3))]) (rest := [.int (nI (q8 - 1)), .ref (E.2.1 251)]) (k_X7_passBy l E hI Mi (q8 - 1) (tn x1) ((Mi.1 252 4) + (nI t2)) ((Mi.1 252 (67 + 2 * (tn x1) + 1)) + (nI t2)) (Mi.1 252 (7 + 10 * (q8 - 1) + 3)) (by omega) (by omega) (by rw [hMi]; exact ht)) (cwV 5 hts gX7_line_X7_passBy rfl rfl rfl (by decide +kernel) ⟨Nat.le_of_ble_eq_true rfl, Nat.le_of_ble_eq_true rfl⟩) (by decide) (uc_251 E _) (T := TX7) (N := 17) rfl rfl hl.1 rfl (Nat.le_of_ble_eq_true rfl) dX7_line_281 (fun r_21 M_22 H locs hw_22 h => ?_)
                              obtain ⟨hu, er_21⟩ := hw_22
                              subst hu
                              refine ur_eq (y := mPass Mi (q8 - 1) (tn x1) ((Mi.1 252 4) + (nI t2)) ((Mi.1 252 (67 + 2 * (tn x1) + 1)) + (nI t2)) (Mi.1 252 (7 + 10 * (q8 - 1) + 3))) er_21 ?_
                              refine ur_callVi C h (k := 251) (As := [.int (nI (q8 - 1)), .int (mPass Mi (q8 - 1) (tn x1) ((Mi.1 252 4) + (nI t2)) ((Mi.1 252 (67 + 2 * (tn x1) + 1)) + (nI t2)) (Mi.1 252 (7 + 10 * (q8 - 1) + 3)))]) (rest := []) (k_X7_wrong l E hI Mi (q8 - 1) (mPass Mi (q8 - 1) (tn x1) ((Mi.1 252 4) + (nI t2)) ((Mi.1 252 (67 + 2 * (tn x1) + 1)) + (nI t2)) (Mi.1 252 (7 + 10 * (q8 - 1) + 3))) (by omega)) (cwV 2 hts gX7_line_X7_wrong rfl rfl rfl (by decide +kernel) ⟨Nat.le_of_ble_eq_true rfl, Nat.le_of_ble_eq_true rfl⟩) (by decide) (uc_251 E _) (T := TX7) (N := 17) rfl rfl hl.1 rfl (Nat.le_of_ble_eq_true rfl) dX7_line_284 (fun r_23 M_24 H locs hw_24 h => ?_)
                              obtain ⟨hu, er_23⟩ := hw_24
                              subst hu
                              refine ur_eq (y := mWrong Mi (q8 - 1) (mPass Mi (q8 - 1) (tn x1) ((Mi.1 252 4) + (nI t2)) ((Mi.1 252 (67 + 2 * (tn x1) + 1)) + (nI t2)) (Mi.1 252 (7 + 10 * (q8 - 1) + 3)))) er_23 ?_
                              refine lv_aload_n hx hb dX7_line_287 rfl (lv_at hl 6 rfl) ?_
                              refine ur_get C h 251 (by decide) (uc_251 E _) (Cn := RX7) (T := TX7) (N := 17) rfl hin7 9 (by decide) (by decide +kernel) rfl dX7_line_288 ?_
                              refine lv_iload hx hb dX7_line_291 (lv_at hl 3 rfl) ?_
                              refine lv_iconst (v := 1) hx hb dX7_line_293 (by decide) ?_
                              refine lv_iload hx hb dX7_line_294 (lv_at hl 0 rfl) ?_
                              refine ur_eq (y := nI (q8 - 1)) (u_p1 (by omega) hq0).1 ?_
                              refine lv_ishl hx hb dX7_line_296 ?_
                              refine lv_isub hx hb dX7_line_297 ?_
                              obtain ⟨hs1, hs2, hs3⟩ := sub1 (s := lf) (p := q8 - 1) hlf (by omega) (decide_eq_true c_16)
                              have hs4 : lf - 2 ^ (q8 - 1) < 64 := Nat.lt_of_le_of_lt (Nat.sub_le _ _) hlf
                              refine ur_eq (y := nI (lf - 2 ^ (q8 - 1))) hs2 ?_
                              refine ur_iald C h 257 (by decide) (uc_257 E _) (lf - 2 ^ (q8 - 1)) (by omega) (by decide) dX7_line_298 ?_
                              refine lv_iadd hx hb dX7_line_299 ?_
                              refine lv_topi (fun v_25 ev_25 => ?_)
                              refine lv_istore (lv' := [(9, .int v_25), (8, .int (nI q8 - 1)), (6, .int f8), (7, .int (nI t2)), (5, .int (nI lf)), (4, .int (nI (pop (mThose M n 0)))), (3, .int (nI (mThose M n 0))), (0, .ref (E.2.1 251)), (1, .int x1), (2, .int x2)]) hx hb dX7_line_300 hl (by decide) rfl (fun ls hl => ?_)
                              refine lv_iload hx hb dX7_line_302 (lv_at hl 0 rfl) ?_
                              refine lv_aload_n hx hb dX7_line_304 rfl (lv_at hl 7 rfl) ?_
                              refine ur_get C h 251 (by decide) (uc_251 E _) (Cn := RX7) (T := TX7) (N := 17) rfl hin7 9 (by decide) (by decide +kernel) rfl dX7_line_305 ?_
                              refine lv_iload hx hb dX7_line_308 (lv_at hl 4 rfl) ?_
                              refine ur_iald C h 257 (by decide) (uc_257 E _) (lf) (by omega) (by decide) dX7_line_310 ?_
                              refine lv_icmp_ne (tgt := 319) hx hb dX7_line_311 (by decide) (fun c_26 => ?_) (fun c_26 => ?_)
                              · skip
                                refine lv_iload hx hb dX7_line_319 (lv_at hl 2 rfl) ?_
                                refine lv_istore (lv' := [(6, .int f8), (9, .int v_25), (8, .int (nI q8 - 1)), (7, .int (nI t2)), (5, .int (nI lf)), (4, .int (nI (pop (mThose M n 0)))), (3, .int (nI (mThose M n 0))), (0, .ref (E.2.1 251)), (1, .int x1), (2, .int x2)]) hx hb dX7_line_321 hl (by decide) rfl (fun ls hl => ?_)
                                refine lv_iinc (v := nI (q8 - 1) - 1) (lv' := [(8, .int (nI (q8 - 1) - 1)), (6, .int f8), (9, .int v_25), (7, .int (nI t2)), (5, .int (nI lf)), (4, .int (nI (pop (mThose M n 0)))), (3, .int (nI (mThose M n 0))), (0, .ref (E.2.1 251)), (1, .int x1), (2, .int x2)]) hx hb dX7_line_323 hl (k := 2) rfl (u_p1 (by omega) hq0).2.2 (by decide) rfl (fun ls hl => ?_)
                                refine lv_goto (tgt := 234) hx hb dX7_line_326 (by decide) ?_
                                exact ih234  (q8 - 1) f8 (by omega) (by omega) (by subst hMi; subst ev_25; rw [show n - (q8 - 1) = (n - q8) + 1 by omega, dF, show n - (n - q8 + 1) = q8 - 1 by omega, if_neg (show ¬ mLg M (tn x1) (mLT M (tn x1) n) lf (nI t2) (q8 - 1) = true from fun z => by unfold mLg at z; rw [Bool.and_eq_true] at z; exact c_26 (of_decide_eq_true z.2))]; exact hf8) _ _ _ h (lv_sub hl [0, 1, 3, 4, 5, 6, 7, 8, 9] rfl)
                              · skip
                                refine lv_iload hx hb dX7_line_314 (lv_at hl 1 rfl) ?_
                                refine ur_eq (y := nI (q8 - 1)) (u_p1 (by omega) hq0).1 ?_
                                refine lv_goto (tgt := 321) hx hb dX7_line_316 (by decide) ?_
                                refine lv_istore (lv' := [(6, .int (nI (q8 - 1))), (9, .int v_25), (8, .int (nI q8 - 1)), (7, .int (nI t2)), (5, .int (nI lf)), (4, .int (nI (pop (mThose M n 0)))), (3, .int (nI (mThose M n 0))), (0, .ref (E.2.1 251)), (1, .int x1), (2, .int x2)]) hx hb dX7_line_321 hl (by decide) rfl (fun ls hl => ?_)
                                refine lv_iinc (v := nI (q8 - 1) - 1) (lv' := [(8, .int (nI (q8 - 1) - 1)), (6, .int (nI (q8 - 1))), (9, .int v_25), (7, .int (nI t2)), (5, .int (nI lf)), (4, .int (nI (pop (mThose M n 0)))), (3, .int (nI (mThose M n 0))), (0, .ref (E.2.1 251)), (1, .int x1), (2, .int x2)]) hx hb dX7_line_323 hl (k := 2) rfl (u_p1 (by omega) hq0).2.2 (by decide) rfl (fun ls hl => ?_)
                                refine lv_goto (tgt := 234) hx hb dX7_line_326 (by decide) ?_
                                exact ih234  (q8 - 1) (nI (q8 - 1)) (by omega) (by omega) (by subst hMi; subst ev_25; rw [show n - (q8 - 1) = (n - q8) + 1 by omega, dF, show n - (n - q8 + 1) = q8 - 1 by omega, if_pos (show mLg M (tn x1) (mLT M (tn x1) n) lf (nI t2) (q8 - 1) = true from by unfold mLg; rw [Bool.and_eq_true]; exact ⟨decide_eq_true c_16, decide_eq_true c_26⟩)]) _ _ _ h (lv_sub hl [0, 1, 3, 4, 5, 6, 7, 8, 9] rfl)
                      exact lp234 _ n (-4) (Nat.lt_succ_self _) (by omega) (by rw [Nat.sub_self]; rfl) _ _ _ h (lv_sub hl [0, 1, 2, 3, 4, 5, 6, 7, 8] rfl)
              exact lp207 _ 0 (mThose M n 0) (-4) (Nat.lt_succ_self _) hal6 (sub5 hal6) (by omega) (by omega) rfl _ _ _ h (lv_sub hl [0, 1, 2, 3, 4, 5, 6, 7] rfl)
            · skip
              refine lv_aload_n hx hb dX7_line_190 rfl (lv_at hl 3 rfl) ?_
              refine ur_get C h 251 (by decide) (uc_251 E _) (Cn := RX7) (T := TX7) (N := 17) rfl hin7 9 (by decide) (by decide +kernel) rfl dX7_line_191 ?_
              refine lv_iload_n hx hb dX7_line_194 rfl (lv_at hl 2 rfl) ?_
              refine ur_iald C h 257 (by decide) (uc_257 E _) (mThose M n 0) (by omega) (by decide) dX7_line_195 ?_
              exact ur_iret C h hr hlocks (by rw [if_pos ⟨by assumption, by assumption⟩]; refine ⟨hMi, ?_⟩; unfold mLine; rw [if_pos ⟨by assumption, by assumption⟩, if_neg (by assumption), hMi]; rfl) dX7_line_196
          · skip
            have c_9 : ¬ (mThose M n 0) < i := fun z => c_9 ((nI_ltI (a := (mThose M n 0)) (b := i) (by omega) (by omega)).mpr z)
            refine lv_iload hx hb dX7_line_36 (lv_at hl 0 rfl) ?_
            refine lv_if_ne (tgt := 45) hx hb dX7_line_38 (by decide) (fun c_27 => ?_) (fun c_27 => ?_)
            · skip
              have c_27 : ¬ i = 0 := fun z => c_27 ((nI_eq (a := i) (b := 0) (by omega) (by omega)).mpr z)
              refine lv_iconst (v := (-1)) hx hb dX7_line_45 (by decide) ?_
              refine lv_istore (lv' := [(6, .int (-1)), (5, .int (nI i)), (4, .int (nI (pop (mThose M n 0)))), (3, .int (nI (mThose M n 0))), (0, .ref (E.2.1 251)), (1, .int x1), (2, .int x2)]) hx hb dX7_line_46 hl (by decide) rfl (fun ls hl => ?_)
              refine lv_iload hx hb dX7_line_48 (lv_at hl 2 rfl) ?_
              refine lv_iload hx hb dX7_line_50 (lv_at hl 1 rfl) ?_
              refine ur_callSi C h (As := [.int (nI i)]) (rest := [.int (nI (pop (mThose M n 0)))]) (k_X7_many l E hI Mi i (by omega)) (va_cwS 1 hts gX7_line_X7_many rfl rfl rfl (by decide +kernel) ⟨Nat.le_of_ble_eq_true rfl, Nat.le_of_ble_eq_true rfl⟩) rfl hl.1 rfl (Nat.le_of_ble_eq_true rfl) dX7_line_52 (fun r_28 M_29 H locs hw_29 h => ?_)
              obtain ⟨hu, er_28⟩ := hw_29
              subst hu
              refine ur_eq (y := nI (pop i)) er_28 ?_
              have hpr_28 : pop i ≤ 6 := pop6 (by omega)
              refine lv_isub hx hb dX7_line_55 ?_
              refine lv_topi (fun v_30 ev_30 => ?_)
              refine lv_istore (lv' := [(7, .int v_30), (6, .int (-1)), (5, .int (nI i)), (4, .int (nI (pop (mThose M n 0)))), (3, .int (nI (mThose M n 0))), (0, .ref (E.2.1 251)), (1, .int x1), (2, .int x2)]) hx hb dX7_line_56 hl (by decide) rfl (fun ls hl => ?_)
              refine lv_iconst (v := 0) hx hb dX7_line_58 (by decide) ?_
              refine lv_istore (lv' := [(8, .int 0), (7, .int v_30), (6, .int (-1)), (5, .int (nI i)), (4, .int (nI (pop (mThose M n 0)))), (3, .int (nI (mThose M n 0))), (0, .ref (E.2.1 251)), (1, .int x1), (2, .int x2)]) hx hb dX7_line_59 hl (by decide) rfl (fun ls hl => ?_)
              have lp61 : ∀ (n61 : Nat) (p2 : Nat) (l6 : Int32), n - p2 < n61 → p2 ≤ n → p2 = 0 ∨ (nI i &&& (nI (mThose M n 0) ^^^ (-1))) = 0 → l6 = mLin M (tn x1) (mTab M (tn x1) n (mThose M n 0) i) i v_30 (-1) p2 → ∀ (H : Heap) (locs : List Loc) (ls : Array Slot), uH E Mi s_ H locs → lv_has ls 10 [(8, .int (nI p2)), (7, .int v_30), (6, .int l6), (5, .int (nI i)), (4, .int (nI (pop (mThose M n 0)))), (3, .int (nI (mThose M n 0))), (0, .ref (E.2.1 251)), (1, .int x1), (2, .int x2)] → W p_ l e_ ({ frames := 3, cells := 0, slots := 0, locals := 77 }) s_ m_ (List.toArray [.ref (E.2.1 251), .int x1, .int x2]) bl_ me_ c_ H locs 0 0 (MQ bl_ (va_Qi (fun r u => if (0 ≤ x1.toInt ∧ x1.toInt < nw) ∧ -1 ≤ x2 then u = uRow M 257 (mLT M (tn x1) n) ∧ r = mLine M n nw x1 x2 else r = -1 ∧ M = u) (uP E) (uA E)) (List.toArray [.ref (E.2.1 251), .int x1, .int x2]) s_ 0 0 (uA E)) (F0 m_ 61 ls []) := by
                intro n61
                induction n61 with
                | zero => intro p2 l6 hms; exact absurd hms (Nat.not_lt_zero _)
                | succ n61 ih61 =>
                  intro p2 l6 hms61 hp2 hsb hl6 H locs ls h hl
                  refine lv_iload hx hb dX7_line_61 (lv_at hl 0 rfl) ?_
                  refine lv_aload_n hx hb dX7_line_63 rfl (lv_at hl 6 rfl) ?_
                  refine ur_get C h 251 (by decide) (uc_251 E _) (Cn := RX7) (T := TX7) (N := 17) rfl hin7 0 (by decide) (by decide +kernel) rfl dX7_line_64 ?_
                  refine lv_iconst (v := 0) hx hb dX7_line_67 (by decide) ?_
                  refine ur_iald C h 252 (by decide) (uc_252 E _) (0) (by decide) (by decide) dX7_line_68 ?_
                  refine ur_eq (y := nI n) ((by rw [hMi]; exact hn)) ?_
                  refine lv_icmp_ge (tgt := 171) hx hb dX7_line_69 (by decide) (fun c_31 => ?_) (fun c_31 => ?_)
                  · skip
                    have c_31 : n ≤ p2 := (nI_leI (a := n) (b := p2) (by omega) (by omega)).mp c_31
                    refine lv_aload_n hx hb dX7_line_171 rfl (lv_at hl 6 rfl) ?_
                    refine ur_get C h 251 (by decide) (uc_251 E _) (Cn := RX7) (T := TX7) (N := 17) rfl hin7 9 (by decide) (by decide +kernel) rfl dX7_line_172 ?_
                    refine lv_iload hx hb dX7_line_175 (lv_at hl 3 rfl) ?_
                    refine lv_iload hx hb dX7_line_177 (lv_at hl 2 rfl) ?_
                    refine ur_iast C h 257 (by decide) (uc_257 E) (i) (by omega) (by decide) dX7_line_179 (fun M_32 H locs eM_32 h => ?_)
                    refine lv_iinc (v := nI (i + 1)) (lv' := [(5, .int (nI (i + 1))), (8, .int (nI p2)), (7, .int v_30), (6, .int l6), (4, .int (nI (pop (mThose M n 0)))), (3, .int (nI (mThose M n 0))), (0, .ref (E.2.1 251)), (1, .int x1), (2, .int x2)]) hx hb dX7_line_180 hl (k := 3) rfl (nI_add i 1) (by decide) rfl (fun ls hl => ?_)
                    refine lv_goto (tgt := 30) hx hb dX7_line_183 (by decide) ?_
                    exact ih30  (i + 1) M_32 (by omega) (by omega) (by rw [eM_32, hMi, u_set_row, hl6, mTab, show (if (nI i &&& (nI (mThose M n 0) ^^^ (-1))) = 0 then n else 0) = p2 from (by rcases hsb with z | z; (by_cases zz : (nI i &&& (nI (mThose M n 0) ^^^ (-1))) = 0; rw [if_pos zz]; omega; rw [if_neg zz]; omega); rw [if_pos z]; omega), show mLi i = (-1) from if_neg c_27]; subst ev_30; rfl) _ _ _ h (lv_sub hl [0, 4, 5, 6, 7, 8] rfl)
                  · skip
                    have c_31 : ¬ n ≤ p2 := fun z => c_31 ((nI_leI (a := n) (b := p2) (by omega) (by omega)).mpr z)
                    refine lv_iload hx hb dX7_line_72 (lv_at hl 3 rfl) ?_
                    refine lv_iload_n hx hb dX7_line_74 rfl (lv_at hl 5 rfl) ?_
                    refine lv_iconst (v := (-1)) hx hb dX7_line_75 (by decide) ?_
                    refine lv_ixor hx hb dX7_line_76 ?_
                    refine lv_iand hx hb dX7_line_77 ?_
                    refine lv_if_ne (tgt := 171) hx hb dX7_line_78 (by decide) (fun c_33 => ?_) (fun c_33 => ?_)
                    · skip
                      refine lv_aload_n hx hb dX7_line_171 rfl (lv_at hl 6 rfl) ?_
                      refine ur_get C h 251 (by decide) (uc_251 E _) (Cn := RX7) (T := TX7) (N := 17) rfl hin7 9 (by decide) (by decide +kernel) rfl dX7_line_172 ?_
                      refine lv_iload hx hb dX7_line_175 (lv_at hl 3 rfl) ?_
                      refine lv_iload hx hb dX7_line_177 (lv_at hl 2 rfl) ?_
                      refine ur_iast C h 257 (by decide) (uc_257 E) (i) (by omega) (by decide) dX7_line_179 (fun M_34 H locs eM_34 h => ?_)
                      refine lv_iinc (v := nI (i + 1)) (lv' := [(5, .int (nI (i + 1))), (8, .int (nI p2)), (7, .int v_30), (6, .int l6), (4, .int (nI (pop (mThose M n 0)))), (3, .int (nI (mThose M n 0))), (0, .ref (E.2.1 251)), (1, .int x1), (2, .int x2)]) hx hb dX7_line_180 hl (k := 3) rfl (nI_add i 1) (by decide) rfl (fun ls hl => ?_)
                      refine lv_goto (tgt := 30) hx hb dX7_line_183 (by decide) ?_
                      exact ih30  (i + 1) M_34 (by omega) (by omega) (by rw [eM_34, hMi, u_set_row, hl6, mTab, show (if (nI i &&& (nI (mThose M n 0) ^^^ (-1))) = 0 then n else 0) = p2 from (by rw [if_neg c_33]; rcases hsb with z | z; omega; exact absurd z c_33), show mLi i = (-1) from if_neg c_27]; subst ev_30; rfl) _ _ _ h (lv_sub hl [0, 4, 5, 6, 7, 8] rfl)
                    · skip
                      refine lv_iload hx hb dX7_line_81 (lv_at hl 3 rfl) ?_
                      refine lv_iload hx hb dX7_line_83 (lv_at hl 0 rfl) ?_
                      refine lv_ishr hx hb dX7_line_85 ?_
                      refine lv_iconst (v := 1) hx hb dX7_line_86 (by decide) ?_
                      refine lv_iand hx hb dX7_line_87 ?_
                      refine lv_iconst (v := 1) hx hb dX7_line_88 (by decide) ?_
                      refine lv_icmp_ne (tgt := 165) hx hb dX7_line_89 (by decide) (fun c_35 => ?_) (fun c_35 => ?_)
                      · skip
                        refine lv_iinc (v := nI (p2 + 1)) (lv' := [(8, .int (nI (p2 + 1))), (7, .int v_30), (6, .int l6), (5, .int (nI i)), (4, .int (nI (pop (mThose M n 0)))), (3, .int (nI (mThose M n 0))), (0, .ref (E.2.1 251)), (1, .int x1), (2, .int x2)]) hx hb dX7_line_165 hl (k := 0) rfl (nI_add p2 1) (by decide) rfl (fun ls hl => ?_)
                        refine lv_goto (tgt := 61) hx hb dX7_line_168 (by decide) ?_
                        exact ih61  (p2 + 1) l6 (by omega) (by omega) (Or.inr c_33) (by rw [mLin, if_neg (show ¬ ubit (nI i) p2 = true from fun z => c_35 (of_decide_eq_true z))]; exact hl6) _ _ _ h (lv_sub hl [0, 1, 2, 3, 4, 5, 6, 7, 8] rfl)
                      · skip
                        refine lv_aload_n hx hb dX7_line_92 rfl (lv_at hl 6 rfl) ?_
                        refine lv_iload hx hb dX7_line_93 (lv_at hl 0 rfl) ?_
                        refine lv_aload_n hx hb dX7_line_95 rfl (lv_at hl 6 rfl) ?_
                        refine lv_iload hx hb dX7_line_96 (lv_at hl 0 rfl) ?_
                        refine lv_iload_n hx hb dX7_line_98 rfl (lv_at hl 7 rfl) ?_
                        refine ur_eq (y := nI (tn x1)) enx1 ?_
                        refine lv_aload_n hx hb dX7_line_99 rfl (lv_at hl 6 rfl) ?_
                        refine ur_get C h 251 (by decide) (uc_251 E _) (Cn := RX7) (T := TX7) (N := 17) rfl hin7 0 (by decide) (by decide +kernel) rfl dX7_line_100 ?_
                        refine lv_iconst (v := 4) hx hb dX7_line_103 (by decide) ?_
                        refine ur_iald C h 252 (by decide) (uc_252 E _) (4) (by decide) (by decide) dX7_line_104 ?_
                        refine lv_iload hx hb dX7_line_105 (lv_at hl 1 rfl) ?_
                        refine lv_iadd hx hb dX7_line_107 ?_
                        refine lv_aload_n hx hb dX7_line_108 rfl (lv_at hl 6 rfl) ?_
                        refine lv_iload_n hx hb dX7_line_109 rfl (lv_at hl 7 rfl) ?_
                        refine ur_eq (y := nI (tn x1)) enx1 ?_
                        refine ur_callVi C h (k := 251) (As := [.int (nI (tn x1))]) (rest := [.int ((Mi.1 252 4) + v_30), .int (nI (tn x1)), .int (nI p2), .ref (E.2.1 251), .int (nI p2), .ref (E.2.1 251)]) (k_X7_wornOf l E hI Mi (tn x1) (by omega)) (cwV 1 hts gX7_line_X7_wornOf rfl rfl rfl (by decide +kernel) ⟨Nat.le_of_ble_eq_true rfl, Nat.le_of_ble_eq_true rfl⟩) (by decide) (uc_251 E _) (T := TX7) (N := 17) rfl rfl hl.1 rfl (Nat.le_of_ble_eq_true rfl) dX7_line_110 (fun r_36 M_37 H locs hw_37 h => ?_)
                        obtain ⟨hu, er_36⟩ := hw_37
                        subst hu
                        refine ur_eq (y := Mi.1 252 (67 + 2 * (tn x1) + 1)) er_36 ?_
                        refine lv_iload hx hb dX7_line_113 (lv_at hl 1 rfl) ?_
                        refine lv_iadd hx hb dX7_line_115 ?_
                        refine lv_aload_n hx hb dX7_line_116 rfl (lv_at hl 6 rfl) ?_
                        refine lv_iload hx hb dX7_line_117 (lv_at hl 0 rfl) ?_
                        refine lv_iconst (v := 3) hx hb dX7_line_119 (by decide) ?_
                        refine ur_callVi C h (k := 251) (As := [.int (nI p2), .int 3]) (rest := [.int ((Mi.1 252 (67 + 2 * (tn x1) + 1)) + v_30), .int ((Mi.1 252 4) + v_30), .int (nI (tn x1)), .int (nI p2), .ref (E.2.1 251), .int (nI p2), .ref (E.2.1 251)]) (k_X7_told l E hI Mi p2 3 (by omega)) (cwV 2 hts gX7_line_X7_told rfl rfl rfl (by decide +kernel) ⟨Nat.le_of_ble_eq_true rfl, Nat.le_of_ble_eq_true rfl⟩) (by decide) (uc_251 E _) (T := TX7) (N := 17) rfl rfl hl.1 rfl (Nat.le_of_ble_eq_true rfl) dX7_line_120 (fun r_38 M_39 H locs hw_39 h => ?_)
                        obtain ⟨hu, er_38⟩ := hw_39
                        subst hu
                        refine ur_eq (y := Mi.1 252 (7 + 10 * p2 + 3)) er_38 ?_
                        refine ur_callVi C h (k := 251) (As := [.int (nI p2), .int (nI (tn x1)), .int ((Mi.1 252 4) + v_30), .int ((Mi.1 252 (67 + 2 * (tn x1) + 1)) + v_30), .int (Mi.1 252 (7 + 10 * p2 + 3))]) (rest := [.int (nI p2), .ref (E.2.1 251)]) (k_X7_passBy l E hI Mi p2 (tn x1) ((Mi.1 252 4) + v_30) ((Mi.1 252 (67 + 2 * (tn x1) + 1)) + v_30) (Mi.1 252 (7 + 10 * p2 + 3)) (by omega) (by omega) (by rw [hMi]; exact ht)) (cwV 5 hts gX7_line_X7_passBy rfl rfl rfl (by decide +kernel) ⟨Nat.le_of_ble_eq_true rfl, Nat.le_of_ble_eq_true rfl⟩) (by decide) (uc_251 E _) (T := TX7) (N := 17) rfl rfl hl.1 rfl (Nat.le_of_ble_eq_true rfl) dX7_line_123 (fun r_40 M_41 H locs hw_41 h => ?_)
                        obtain ⟨hu, er_40⟩ := hw_41
                        subst hu
                        refine ur_eq (y := mPass Mi p2 (tn x1) ((Mi.1 252 4) + v_30) ((Mi.1 252 (67 + 2 * (tn x1) + 1)) + v_30) (Mi.1 252 (7 + 10 * p2 + 3))) er_40 ?_
                        refine ur_callVi C h (k := 251) (As := [.int (nI p2), .int (mPass Mi p2 (tn x1) ((Mi.1 252 4) + v_30) ((Mi.1 252 (67 + 2 * (tn x1) + 1)) + v_30) (Mi.1 252 (7 + 10 * p2 + 3)))]) (rest := []) (k_X7_wrong l E hI Mi p2 (mPass Mi p2 (tn x1) ((Mi.1 252 4) + v_30) ((Mi.1 252 (67 + 2 * (tn x1) + 1)) + v_30) (Mi.1 252 (7 + 10 * p2 + 3))) (by omega)) (cwV 2 hts gX7_line_X7_wrong rfl rfl rfl (by decide +kernel) ⟨Nat.le_of_ble_eq_true rfl, Nat.le_of_ble_eq_true rfl⟩) (by decide) (uc_251 E _) (T := TX7) (N := 17) rfl rfl hl.1 rfl (Nat.le_of_ble_eq_true rfl) dX7_line_126 (fun r_42 M_43 H locs hw_43 h => ?_)
                        obtain ⟨hu, er_42⟩ := hw_43
                        subst hu
                        refine ur_eq (y := mWrong Mi p2 (mPass Mi p2 (tn x1) ((Mi.1 252 4) + v_30) ((Mi.1 252 (67 + 2 * (tn x1) + 1)) + v_30) (Mi.1 252 (7 + 10 * p2 + 3)))) er_42 ?_
                        refine lv_aload_n hx hb dX7_line_129 rfl (lv_at hl 6 rfl) ?_
                        refine ur_get C h 251 (by decide) (uc_251 E _) (Cn := RX7) (T := TX7) (N := 17) rfl hin7 9 (by decide) (by decide +kernel) rfl dX7_line_130 ?_
                        refine lv_iload hx hb dX7_line_133 (lv_at hl 3 rfl) ?_
                        refine lv_iconst (v := 1) hx hb dX7_line_135 (by decide) ?_
                        refine lv_iload hx hb dX7_line_136 (lv_at hl 0 rfl) ?_
                        refine lv_ishl hx hb dX7_line_138 ?_
                        refine lv_isub hx hb dX7_line_139 ?_
                        obtain ⟨hs1, hs2, hs3⟩ := sub1 (s := i) (p := p2) (by omega) (by omega) (decide_eq_true c_35)
                        have hs4 : i - 2 ^ p2 < 64 := Nat.lt_of_le_of_lt (Nat.sub_le _ _) (by omega)
                        refine ur_eq (y := nI (i - 2 ^ p2)) hs2 ?_
                        refine ur_iald C h 257 (by decide) (uc_257 E _) (i - 2 ^ p2) (by omega) (by decide) dX7_line_140 ?_
                        refine lv_iadd hx hb dX7_line_141 ?_
                        refine lv_topi (fun v_44 ev_44 => ?_)
                        refine lv_istore (lv' := [(9, .int v_44), (8, .int (nI p2)), (7, .int v_30), (6, .int l6), (5, .int (nI i)), (4, .int (nI (pop (mThose M n 0)))), (3, .int (nI (mThose M n 0))), (0, .ref (E.2.1 251)), (1, .int x1), (2, .int x2)]) hx hb dX7_line_142 hl (by decide) rfl (fun ls hl => ?_)
                        refine lv_iload hx hb dX7_line_144 (lv_at hl 3 rfl) ?_
                        refine lv_if_lt (tgt := 156) hx hb dX7_line_146 (by decide) (fun c_45 => ?_) (fun c_45 => ?_)
                        · skip
                          refine lv_iload hx hb dX7_line_156 (lv_at hl 0 rfl) ?_
                          refine lv_goto (tgt := 163) hx hb dX7_line_158 (by decide) ?_
                          refine lv_istore (lv' := [(6, .int v_44), (9, .int v_44), (8, .int (nI p2)), (7, .int v_30), (5, .int (nI i)), (4, .int (nI (pop (mThose M n 0)))), (3, .int (nI (mThose M n 0))), (0, .ref (E.2.1 251)), (1, .int x1), (2, .int x2)]) hx hb dX7_line_163 hl (by decide) rfl (fun ls hl => ?_)
                          refine lv_iinc (v := nI (p2 + 1)) (lv' := [(8, .int (nI (p2 + 1))), (6, .int v_44), (9, .int v_44), (7, .int v_30), (5, .int (nI i)), (4, .int (nI (pop (mThose M n 0)))), (3, .int (nI (mThose M n 0))), (0, .ref (E.2.1 251)), (1, .int x1), (2, .int x2)]) hx hb dX7_line_165 hl (k := 2) rfl (nI_add p2 1) (by decide) rfl (fun ls hl => ?_)
                          refine lv_goto (tgt := 61) hx hb dX7_line_168 (by decide) ?_
                          exact ih61  (p2 + 1) v_44 (by omega) (by omega) (Or.inr c_33) (by subst hMi; subst ev_44; rw [mLin, if_pos (show ubit (nI i) p2 = true from decide_eq_true c_35), ← hl6]; exact (if_pos (Or.inl c_45)).symm) _ _ _ h (lv_sub hl [0, 3, 1, 4, 5, 6, 7, 8, 9] rfl)
                        · skip
                          refine lv_iload hx hb dX7_line_149 (lv_at hl 0 rfl) ?_
                          refine lv_iload hx hb dX7_line_151 (lv_at hl 3 rfl) ?_
                          refine lv_icmp_ge (tgt := 161) hx hb dX7_line_153 (by decide) (fun c_46 => ?_) (fun c_46 => ?_)
                          · skip
                            refine lv_iload hx hb dX7_line_161 (lv_at hl 3 rfl) ?_
                            refine lv_istore (lv' := [(6, .int l6), (9, .int v_44), (8, .int (nI p2)), (7, .int v_30), (5, .int (nI i)), (4, .int (nI (pop (mThose M n 0)))), (3, .int (nI (mThose M n 0))), (0, .ref (E.2.1 251)), (1, .int x1), (2, .int x2)]) hx hb dX7_line_163 hl (by decide) rfl (fun ls hl => ?_)
                            refine lv_iinc (v := nI (p2 + 1)) (lv' := [(8, .int (nI (p2 + 1))), (6, .int l6), (9, .int v_44), (7, .int v_30), (5, .int (nI i)), (4, .int (nI (pop (mThose M n 0)))), (3, .int (nI (mThose M n 0))), (0, .ref (E.2.1 251)), (1, .int x1), (2, .int x2)]) hx hb dX7_line_165 hl (k := 2) rfl (nI_add p2 1) (by decide) rfl (fun ls hl => ?_)
                            refine lv_goto (tgt := 61) hx hb dX7_line_168 (by decide) ?_
                            exact ih61  (p2 + 1) l6 (by omega) (by omega) (Or.inr c_33) (by subst hMi; subst ev_44; rw [mLin, if_pos (show ubit (nI i) p2 = true from decide_eq_true c_35), ← hl6]; exact (if_neg (fun z => by rcases z with z | z; exact c_45 z; exact z c_46)).symm) _ _ _ h (lv_sub hl [0, 3, 1, 4, 5, 6, 7, 8, 9] rfl)
                          · skip
                            refine lv_iload hx hb dX7_line_156 (lv_at hl 0 rfl) ?_
                            refine lv_goto (tgt := 163) hx hb dX7_line_158 (by decide) ?_
                            refine lv_istore (lv' := [(6, .int v_44), (9, .int v_44), (8, .int (nI p2)), (7, .int v_30), (5, .int (nI i)), (4, .int (nI (pop (mThose M n 0)))), (3, .int (nI (mThose M n 0))), (0, .ref (E.2.1 251)), (1, .int x1), (2, .int x2)]) hx hb dX7_line_163 hl (by decide) rfl (fun ls hl => ?_)
                            refine lv_iinc (v := nI (p2 + 1)) (lv' := [(8, .int (nI (p2 + 1))), (6, .int v_44), (9, .int v_44), (7, .int v_30), (5, .int (nI i)), (4, .int (nI (pop (mThose M n 0)))), (3, .int (nI (mThose M n 0))), (0, .ref (E.2.1 251)), (1, .int x1), (2, .int x2)]) hx hb dX7_line_165 hl (k := 2) rfl (nI_add p2 1) (by decide) rfl (fun ls hl => ?_)
                            refine lv_goto (tgt := 61) hx hb dX7_line_168 (by decide) ?_
                            exact ih61  (p2 + 1) v_44 (by omega) (by omega) (Or.inr c_33) (by subst hMi; subst ev_44; rw [mLin, if_pos (show ubit (nI i) p2 = true from decide_eq_true c_35), ← hl6]; exact (if_pos (Or.inr c_46)).symm) _ _ _ h (lv_sub hl [0, 3, 1, 4, 5, 6, 7, 8, 9] rfl)
              exact lp61 _ 0 (-1) (Nat.lt_succ_self _) (by omega) (Or.inl rfl) rfl _ _ _ h (lv_sub hl [0, 1, 2, 3, 4, 5, 6, 7, 8] rfl)
            · skip
              have c_27 : i = 0 := (nI_eq (a := i) (b := 0) (by omega) (by omega)).mp c_27
              refine lv_iconst (v := 0) hx hb dX7_line_41 (by decide) ?_
              refine lv_goto (tgt := 46) hx hb dX7_line_42 (by decide) ?_
              refine lv_istore (lv' := [(6, .int 0), (5, .int (nI i)), (4, .int (nI (pop (mThose M n 0)))), (3, .int (nI (mThose M n 0))), (0, .ref (E.2.1 251)), (1, .int x1), (2, .int x2)]) hx hb dX7_line_46 hl (by decide) rfl (fun ls hl => ?_)
              refine lv_iload hx hb dX7_line_48 (lv_at hl 2 rfl) ?_
              refine lv_iload hx hb dX7_line_50 (lv_at hl 1 rfl) ?_
              refine ur_callSi C h (As := [.int (nI i)]) (rest := [.int (nI (pop (mThose M n 0)))]) (k_X7_many l E hI Mi i (by omega)) (va_cwS 1 hts gX7_line_X7_many rfl rfl rfl (by decide +kernel) ⟨Nat.le_of_ble_eq_true rfl, Nat.le_of_ble_eq_true rfl⟩) rfl hl.1 rfl (Nat.le_of_ble_eq_true rfl) dX7_line_52 (fun r_47 M_48 H locs hw_48 h => ?_)
              obtain ⟨hu, er_47⟩ := hw_48
              subst hu
              refine ur_eq (y := nI (pop i)) er_47 ?_
              have hpr_47 : pop i ≤ 6 := pop6 (by omega)
              refine lv_isub hx hb dX7_line_55 ?_
              refine lv_topi (fun v_49 ev_49 => ?_)
              refine lv_istore (lv' := [(7, .int v_49), (6, .int 0), (5, .int (nI i)), (4, .int (nI (pop (mThose M n 0)))), (3, .int (nI (mThose M n 0))), (0, .ref (E.2.1 251)), (1, .int x1), (2, .int x2)]) hx hb dX7_line_56 hl (by decide) rfl (fun ls hl => ?_)
              refine lv_iconst (v := 0) hx hb dX7_line_58 (by decide) ?_
              refine lv_istore (lv' := [(8, .int 0), (7, .int v_49), (6, .int 0), (5, .int (nI i)), (4, .int (nI (pop (mThose M n 0)))), (3, .int (nI (mThose M n 0))), (0, .ref (E.2.1 251)), (1, .int x1), (2, .int x2)]) hx hb dX7_line_59 hl (by decide) rfl (fun ls hl => ?_)
              have lp61 : ∀ (n61 : Nat) (p2 : Nat) (l6 : Int32), n - p2 < n61 → p2 ≤ n → p2 = 0 ∨ (nI i &&& (nI (mThose M n 0) ^^^ (-1))) = 0 → l6 = mLin M (tn x1) (mTab M (tn x1) n (mThose M n 0) i) i v_49 0 p2 → ∀ (H : Heap) (locs : List Loc) (ls : Array Slot), uH E Mi s_ H locs → lv_has ls 10 [(8, .int (nI p2)), (7, .int v_49), (6, .int l6), (5, .int (nI i)), (4, .int (nI (pop (mThose M n 0)))), (3, .int (nI (mThose M n 0))), (0, .ref (E.2.1 251)), (1, .int x1), (2, .int x2)] → W p_ l e_ ({ frames := 3, cells := 0, slots := 0, locals := 77 }) s_ m_ (List.toArray [.ref (E.2.1 251), .int x1, .int x2]) bl_ me_ c_ H locs 0 0 (MQ bl_ (va_Qi (fun r u => if (0 ≤ x1.toInt ∧ x1.toInt < nw) ∧ -1 ≤ x2 then u = uRow M 257 (mLT M (tn x1) n) ∧ r = mLine M n nw x1 x2 else r = -1 ∧ M = u) (uP E) (uA E)) (List.toArray [.ref (E.2.1 251), .int x1, .int x2]) s_ 0 0 (uA E)) (F0 m_ 61 ls []) := by
                intro n61
                induction n61 with
                | zero => intro p2 l6 hms; exact absurd hms (Nat.not_lt_zero _)
                | succ n61 ih61 =>
                  intro p2 l6 hms61 hp2 hsb hl6 H locs ls h hl
                  refine lv_iload hx hb dX7_line_61 (lv_at hl 0 rfl) ?_
                  refine lv_aload_n hx hb dX7_line_63 rfl (lv_at hl 6 rfl) ?_
                  refine ur_get C h 251 (by decide) (uc_251 E _) (Cn := RX7) (T := TX7) (N := 17) rfl hin7 0 (by decide) (by decide +kernel) rfl dX7_line_64 ?_
                  refine lv_iconst (v := 0) hx hb dX7_line_67 (by decide) ?_
                  refine ur_iald C h 252 (by decide) (uc_252 E _) (0) (by decide) (by decide) dX7_line_68 ?_
                  refine ur_eq (y := nI n) ((by rw [hMi]; exact hn)) ?_
                  refine lv_icmp_ge (tgt := 171) hx hb dX7_line_69 (by decide) (fun c_50 => ?_) (fun c_50 => ?_)
                  · skip
                    have c_50 : n ≤ p2 := (nI_leI (a := n) (b := p2) (by omega) (by omega)).mp c_50
                    refine lv_aload_n hx hb dX7_line_171 rfl (lv_at hl 6 rfl) ?_
                    refine ur_get C h 251 (by decide) (uc_251 E _) (Cn := RX7) (T := TX7) (N := 17) rfl hin7 9 (by decide) (by decide +kernel) rfl dX7_line_172 ?_
                    refine lv_iload hx hb dX7_line_175 (lv_at hl 3 rfl) ?_
                    refine lv_iload hx hb dX7_line_177 (lv_at hl 2 rfl) ?_
                    refine ur_iast C h 257 (by decide) (uc_257 E) (i) (by omega) (by decide) dX7_line_179 (fun M_51 H locs eM_51 h => ?_)
                    refine lv_iinc (v := nI (i + 1)) (lv' := [(5, .int (nI (i + 1))), (8, .int (nI p2)), (7, .int v_49), (6, .int l6), (4, .int (nI (pop (mThose M n 0)))), (3, .int (nI (mThose M n 0))), (0, .ref (E.2.1 251)), (1, .int x1), (2, .int x2)]) hx hb dX7_line_180 hl (k := 3) rfl (nI_add i 1) (by decide) rfl (fun ls hl => ?_)
                    refine lv_goto (tgt := 30) hx hb dX7_line_183 (by decide) ?_
                    exact ih30  (i + 1) M_51 (by omega) (by omega) (by rw [eM_51, hMi, u_set_row, hl6, mTab, show (if (nI i &&& (nI (mThose M n 0) ^^^ (-1))) = 0 then n else 0) = p2 from (by rcases hsb with z | z; (by_cases zz : (nI i &&& (nI (mThose M n 0) ^^^ (-1))) = 0; rw [if_pos zz]; omega; rw [if_neg zz]; omega); rw [if_pos z]; omega), show mLi i = 0 from if_pos c_27]; subst ev_49; rfl) _ _ _ h (lv_sub hl [0, 4, 5, 6, 7, 8] rfl)
                  · skip
                    have c_50 : ¬ n ≤ p2 := fun z => c_50 ((nI_leI (a := n) (b := p2) (by omega) (by omega)).mpr z)
                    refine lv_iload hx hb dX7_line_72 (lv_at hl 3 rfl) ?_
                    refine lv_iload_n hx hb dX7_line_74 rfl (lv_at hl 5 rfl) ?_
                    refine lv_iconst (v := (-1)) hx hb dX7_line_75 (by decide) ?_
                    refine lv_ixor hx hb dX7_line_76 ?_
                    refine lv_iand hx hb dX7_line_77 ?_
                    refine lv_if_ne (tgt := 171) hx hb dX7_line_78 (by decide) (fun c_52 => ?_) (fun c_52 => ?_)
                    · skip
                      refine lv_aload_n hx hb dX7_line_171 rfl (lv_at hl 6 rfl) ?_
                      refine ur_get C h 251 (by decide) (uc_251 E _) (Cn := RX7) (T := TX7) (N := 17) rfl hin7 9 (by decide) (by decide +kernel) rfl dX7_line_172 ?_
                      refine lv_iload hx hb dX7_line_175 (lv_at hl 3 rfl) ?_
                      refine lv_iload hx hb dX7_line_177 (lv_at hl 2 rfl) ?_
                      refine ur_iast C h 257 (by decide) (uc_257 E) (i) (by omega) (by decide) dX7_line_179 (fun M_53 H locs eM_53 h => ?_)
                      refine lv_iinc (v := nI (i + 1)) (lv' := [(5, .int (nI (i + 1))), (8, .int (nI p2)), (7, .int v_49), (6, .int l6), (4, .int (nI (pop (mThose M n 0)))), (3, .int (nI (mThose M n 0))), (0, .ref (E.2.1 251)), (1, .int x1), (2, .int x2)]) hx hb dX7_line_180 hl (k := 3) rfl (nI_add i 1) (by decide) rfl (fun ls hl => ?_)
                      refine lv_goto (tgt := 30) hx hb dX7_line_183 (by decide) ?_
                      exact ih30  (i + 1) M_53 (by omega) (by omega) (by rw [eM_53, hMi, u_set_row, hl6, mTab, show (if (nI i &&& (nI (mThose M n 0) ^^^ (-1))) = 0 then n else 0) = p2 from (by rw [if_neg c_52]; rcases hsb with z | z; omega; exact absurd z c_52), show mLi i = 0 from if_pos c_27]; subst ev_49; rfl) _ _ _ h (lv_sub hl [0, 4, 5, 6, 7, 8] rfl)
                    · skip
                      refine lv_iload hx hb dX7_line_81 (lv_at hl 3 rfl) ?_
                      refine lv_iload hx hb dX7_line_83 (lv_at hl 0 rfl) ?_
                      refine lv_ishr hx hb dX7_line_85 ?_
                      refine lv_iconst (v := 1) hx hb dX7_line_86 (by decide) ?_
                      refine lv_iand hx hb dX7_line_87 ?_
                      refine lv_iconst (v := 1) hx hb dX7_line_88 (by decide) ?_
                      refine lv_icmp_ne (tgt := 165) hx hb dX7_line_89 (by decide) (fun c_54 => ?_) (fun c_54 => ?_)
                      · skip
                        refine lv_iinc (v := nI (p2 + 1)) (lv' := [(8, .int (nI (p2 + 1))), (7, .int v_49), (6, .int l6), (5, .int (nI i)), (4, .int (nI (pop (mThose M n 0)))), (3, .int (nI (mThose M n 0))), (0, .ref (E.2.1 251)), (1, .int x1), (2, .int x2)]) hx hb dX7_line_165 hl (k := 0) rfl (nI_add p2 1) (by decide) rfl (fun ls hl => ?_)
                        refine lv_goto (tgt := 61) hx hb dX7_line_168 (by decide) ?_
                        exact ih61  (p2 + 1) l6 (by omega) (by omega) (Or.inr c_52) (by rw [mLin, if_neg (show ¬ ubit (nI i) p2 = true from fun z => c_54 (of_decide_eq_true z))]; exact hl6) _ _ _ h (lv_sub hl [0, 1, 2, 3, 4, 5, 6, 7, 8] rfl)
                      · skip
                        refine lv_aload_n hx hb dX7_line_92 rfl (lv_at hl 6 rfl) ?_
                        refine lv_iload hx hb dX7_line_93 (lv_at hl 0 rfl) ?_
                        refine lv_aload_n hx hb dX7_line_95 rfl (lv_at hl 6 rfl) ?_
                        refine lv_iload hx hb dX7_line_96 (lv_at hl 0 rfl) ?_
                        refine lv_iload_n hx hb dX7_line_98 rfl (lv_at hl 7 rfl) ?_
                        refine ur_eq (y := nI (tn x1)) enx1 ?_
                        refine lv_aload_n hx hb dX7_line_99 rfl (lv_at hl 6 rfl) ?_
                        refine ur_get C h 251 (by decide) (uc_251 E _) (Cn := RX7) (T := TX7) (N := 17) rfl hin7 0 (by decide) (by decide +kernel) rfl dX7_line_100 ?_
                        refine lv_iconst (v := 4) hx hb dX7_line_103 (by decide) ?_
                        refine ur_iald C h 252 (by decide) (uc_252 E _) (4) (by decide) (by decide) dX7_line_104 ?_
                        refine lv_iload hx hb dX7_line_105 (lv_at hl 1 rfl) ?_
                        refine lv_iadd hx hb dX7_line_107 ?_
                        refine lv_aload_n hx hb dX7_line_108 rfl (lv_at hl 6 rfl) ?_
                        refine lv_iload_n hx hb dX7_line_109 rfl (lv_at hl 7 rfl) ?_
                        refine ur_eq (y := nI (tn x1)) enx1 ?_
                        refine ur_callVi C h (k := 251) (As := [.int (nI (tn x1))]) (rest := [.int ((Mi.1 252 4) + v_49), .int (nI (tn x1)), .int (nI p2), .ref (E.2.1 251), .int (nI p2), .ref (E.2.1 251)]) (k_X7_wornOf l E hI Mi (tn x1) (by omega)) (cwV 1 hts gX7_line_X7_wornOf rfl rfl rfl (by decide +kernel) ⟨Nat.le_of_ble_eq_true rfl, Nat.le_of_ble_eq_true rfl⟩) (by decide) (uc_251 E _) (T := TX7) (N := 17) rfl rfl hl.1 rfl (Nat.le_of_ble_eq_true rfl) dX7_line_110 (fun r_55 M_56 H locs hw_56 h => ?_)
                        obtain ⟨hu, er_55⟩ := hw_56
                        subst hu
                        refine ur_eq (y := Mi.1 252 (67 + 2 * (tn x1) + 1)) er_55 ?_
                        refine lv_iload hx hb dX7_line_113 (lv_at hl 1 rfl) ?_
                        refine lv_iadd hx hb dX7_line_115 ?_
                        refine lv_aload_n hx hb dX7_line_116 rfl (lv_at hl 6 rfl) ?_
                        refine lv_iload hx hb dX7_line_117 (lv_at hl 0 rfl) ?_
                        refine lv_iconst (v := 3) hx hb dX7_line_119 (by decide) ?_
                        refine ur_callVi C h (k := 251) (As := [.int (nI p2), .int 3]) (rest := [.int ((Mi.1 252 (67 + 2 * (tn x1) + 1)) + v_49), .int ((Mi.1 252 4) + v_49), .int (nI (tn x1)), .int (nI p2), .ref (E.2.1 251), .int (nI p2), .ref (E.2.1 251)]) (k_X7_told l E hI Mi p2 3 (by omega)) (cwV 2 hts gX7_line_X7_told rfl rfl rfl (by decide +kernel) ⟨Nat.le_of_ble_eq_true rfl, Nat.le_of_ble_eq_true rfl⟩) (by decide) (uc_251 E _) (T := TX7) (N := 17) rfl rfl hl.1 rfl (Nat.le_of_ble_eq_true rfl) dX7_line_120 (fun r_57 M_58 H locs hw_58 h => ?_)
                        obtain ⟨hu, er_57⟩ := hw_58
                        subst hu
                        refine ur_eq (y := Mi.1 252 (7 + 10 * p2 + 3)) er_57 ?_
                        refine ur_callVi C h (k := 251) (As := [.int (nI p2), .int (nI (tn x1)), .int ((Mi.1 252 4) + v_49), .int ((Mi.1 252 (67 + 2 * (tn x1) + 1)) + v_49), .int (Mi.1 252 (7 + 10 * p2 + 3))]) (rest := [.int (nI p2), .ref (E.2.1 251)]) (k_X7_passBy l E hI Mi p2 (tn x1) ((Mi.1 252 4) + v_49) ((Mi.1 252 (67 + 2 * (tn x1) + 1)) + v_49) (Mi.1 252 (7 + 10 * p2 + 3)) (by omega) (by omega) (by rw [hMi]; exact ht)) (cwV 5 hts gX7_line_X7_passBy rfl rfl rfl (by decide +kernel) ⟨Nat.le_of_ble_eq_true rfl, Nat.le_of_ble_eq_true rfl⟩) (by decide) (uc_251 E _) (T := TX7) (N := 17) rfl rfl hl.1 rfl (Nat.le_of_ble_eq_true rfl) dX7_line_123 (fun r_59 M_60 H locs hw_60 h => ?_)
                        obtain ⟨hu, er_59⟩ := hw_60
                        subst hu
                        refine ur_eq (y := mPass Mi p2 (tn x1) ((Mi.1 252 4) + v_49) ((Mi.1 252 (67 + 2 * (tn x1) + 1)) + v_49) (Mi.1 252 (7 + 10 * p2 + 3))) er_59 ?_
                        refine ur_callVi C h (k := 251) (As := [.int (nI p2), .int (mPass Mi p2 (tn x1) ((Mi.1 252 4) + v_49) ((Mi.1 252 (67 + 2 * (tn x1) + 1)) + v_49) (Mi.1 252 (7 + 10 * p2 + 3)))]) (rest := []) (k_X7_wrong l E hI Mi p2 (mPass Mi p2 (tn x1) ((Mi.1 252 4) + v_49) ((Mi.1 252 (67 + 2 * (tn x1) + 1)) + v_49) (Mi.1 252 (7 + 10 * p2 + 3))) (by omega)) (cwV 2 hts gX7_line_X7_wrong rfl rfl rfl (by decide +kernel) ⟨Nat.le_of_ble_eq_true rfl, Nat.le_of_ble_eq_true rfl⟩) (by decide) (uc_251 E _) (T := TX7) (N := 17) rfl rfl hl.1 rfl (Nat.le_of_ble_eq_true rfl) dX7_line_126 (fun r_61 M_62 H locs hw_62 h => ?_)
                        obtain ⟨hu, er_61⟩ := hw_62
                        subst hu
                        refine ur_eq (y := mWrong Mi p2 (mPass Mi p2 (tn x1) ((Mi.1 252 4) + v_49) ((Mi.1 252 (67 + 2 * (tn x1) + 1)) + v_49) (Mi.1 252 (7 + 10 * p2 + 3)))) er_61 ?_
                        refine lv_aload_n hx hb dX7_line_129 rfl (lv_at hl 6 rfl) ?_
                        refine ur_get C h 251 (by decide) (uc_251 E _) (Cn := RX7) (T := TX7) (N := 17) rfl hin7 9 (by decide) (by decide +kernel) rfl dX7_line_130 ?_
                        refine lv_iload hx hb dX7_line_133 (lv_at hl 3 rfl) ?_
                        refine lv_iconst (v := 1) hx hb dX7_line_135 (by decide) ?_
                        refine lv_iload hx hb dX7_line_136 (lv_at hl 0 rfl) ?_
                        refine lv_ishl hx hb dX7_line_138 ?_
                        refine lv_isub hx hb dX7_line_139 ?_
                        obtain ⟨hs1, hs2, hs3⟩ := sub1 (s := i) (p := p2) (by omega) (by omega) (decide_eq_true c_54)
                        have hs4 : i - 2 ^ p2 < 64 := Nat.lt_of_le_of_lt (Nat.sub_le _ _) (by omega)
                        refine ur_eq (y := nI (i - 2 ^ p2)) hs2 ?_
                        refine ur_iald C h 257 (by decide) (uc_257 E _) (i - 2 ^ p2) (by omega) (by decide) dX7_line_140 ?_
                        refine lv_iadd hx hb dX7_line_141 ?_
                        refine lv_topi (fun v_63 ev_63 => ?_)
                        refine lv_istore (lv' := [(9, .int v_63), (8, .int (nI p2)), (7, .int v_49), (6, .int l6), (5, .int (nI i)), (4, .int (nI (pop (mThose M n 0)))), (3, .int (nI (mThose M n 0))), (0, .ref (E.2.1 251)), (1, .int x1), (2, .int x2)]) hx hb dX7_line_142 hl (by decide) rfl (fun ls hl => ?_)
                        refine lv_iload hx hb dX7_line_144 (lv_at hl 3 rfl) ?_
                        refine lv_if_lt (tgt := 156) hx hb dX7_line_146 (by decide) (fun c_64 => ?_) (fun c_64 => ?_)
                        · skip
                          refine lv_iload hx hb dX7_line_156 (lv_at hl 0 rfl) ?_
                          refine lv_goto (tgt := 163) hx hb dX7_line_158 (by decide) ?_
                          refine lv_istore (lv' := [(6, .int v_63), (9, .int v_63), (8, .int (nI p2)), (7, .int v_49), (5, .int (nI i)), (4, .int (nI (pop (mThose M n 0)))), (3, .int (nI (mThose M n 0))), (0, .ref (E.2.1 251)), (1, .int x1), (2, .int x2)]) hx hb dX7_line_163 hl (by decide) rfl (fun ls hl => ?_)
                          refine lv_iinc (v := nI (p2 + 1)) (lv' := [(8, .int (nI (p2 + 1))), (6, .int v_63), (9, .int v_63), (7, .int v_49), (5, .int (nI i)), (4, .int (nI (pop (mThose M n 0)))), (3, .int (nI (mThose M n 0))), (0, .ref (E.2.1 251)), (1, .int x1), (2, .int x2)]) hx hb dX7_line_165 hl (k := 2) rfl (nI_add p2 1) (by decide) rfl (fun ls hl => ?_)
                          refine lv_goto (tgt := 61) hx hb dX7_line_168 (by decide) ?_
                          exact ih61  (p2 + 1) v_63 (by omega) (by omega) (Or.inr c_52) (by subst hMi; subst ev_63; rw [mLin, if_pos (show ubit (nI i) p2 = true from decide_eq_true c_54), ← hl6]; exact (if_pos (Or.inl c_64)).symm) _ _ _ h (lv_sub hl [0, 3, 1, 4, 5, 6, 7, 8, 9] rfl)
                        · skip
                          refine lv_iload hx hb dX7_line_149 (lv_at hl 0 rfl) ?_
                          refine lv_iload hx hb dX7_line_151 (lv_at hl 3 rfl) ?_
                          refine lv_icmp_ge (tgt := 161) hx hb dX7_line_153 (by decide) (fun c_65 => ?_) (fun c_65 => ?_)
                          · skip
                            refine lv_iload hx hb dX7_line_161 (lv_at hl 3 rfl) ?_
                            refine lv_istore (lv' := [(6, .int l6), (9, .int v_63), (8, .int (nI p2)), (7, .int v_49), (5, .int (nI i)), (4, .int (nI (pop (mThose M n 0)))), (3, .int (nI (mThose M n 0))), (0, .ref (E.2.1 251)), (1, .int x1), (2, .int x2)]) hx hb dX7_line_163 hl (by decide) rfl (fun ls hl => ?_)
                            refine lv_iinc (v := nI (p2 + 1)) (lv' := [(8, .int (nI (p2 + 1))), (6, .int l6), (9, .int v_63), (7, .int v_49), (5, .int (nI i)), (4, .int (nI (pop (mThose M n 0)))), (3, .int (nI (mThose M n 0))), (0, .ref (E.2.1 251)), (1, .int x1), (2, .int x2)]) hx hb dX7_line_165 hl (k := 2) rfl (nI_add p2 1) (by decide) rfl (fun ls hl => ?_)
                            refine lv_goto (tgt := 61) hx hb dX7_line_168 (by decide) ?_
                            exact ih61  (p2 + 1) l6 (by omega) (by omega) (Or.inr c_52) (by subst hMi; subst ev_63; rw [mLin, if_pos (show ubit (nI i) p2 = true from decide_eq_true c_54), ← hl6]; exact (if_neg (fun z => by rcases z with z | z; exact c_64 z; exact z c_65)).symm) _ _ _ h (lv_sub hl [0, 3, 1, 4, 5, 6, 7, 8, 9] rfl)
                          · skip
                            refine lv_iload hx hb dX7_line_156 (lv_at hl 0 rfl) ?_
                            refine lv_goto (tgt := 163) hx hb dX7_line_158 (by decide) ?_
                            refine lv_istore (lv' := [(6, .int v_63), (9, .int v_63), (8, .int (nI p2)), (7, .int v_49), (5, .int (nI i)), (4, .int (nI (pop (mThose M n 0)))), (3, .int (nI (mThose M n 0))), (0, .ref (E.2.1 251)), (1, .int x1), (2, .int x2)]) hx hb dX7_line_163 hl (by decide) rfl (fun ls hl => ?_)
                            refine lv_iinc (v := nI (p2 + 1)) (lv' := [(8, .int (nI (p2 + 1))), (6, .int v_63), (9, .int v_63), (7, .int v_49), (5, .int (nI i)), (4, .int (nI (pop (mThose M n 0)))), (3, .int (nI (mThose M n 0))), (0, .ref (E.2.1 251)), (1, .int x1), (2, .int x2)]) hx hb dX7_line_165 hl (k := 2) rfl (nI_add p2 1) (by decide) rfl (fun ls hl => ?_)
                            refine lv_goto (tgt := 61) hx hb dX7_line_168 (by decide) ?_
                            exact ih61  (p2 + 1) v_63 (by omega) (by omega) (Or.inr c_52) (by subst hMi; subst ev_63; rw [mLin, if_pos (show ubit (nI i) p2 = true from decide_eq_true c_54), ← hl6]; exact (if_pos (Or.inr c_65)).symm) _ _ _ h (lv_sub hl [0, 3, 1, 4, 5, 6, 7, 8, 9] rfl)
              exact lp61 _ 0 0 (Nat.lt_succ_self _) (by omega) (Or.inl rfl) rfl _ _ _ h (lv_sub hl [0, 1, 2, 3, 4, 5, 6, 7, 8] rfl)
      exact lp30 _ 0 M (Nat.lt_succ_self _) (by omega) (u_row_self M 257).symm _ _ _ h (lv_sub hl [0, 1, 2, 3, 4, 5] rfl)
    · skip
      refine lv_iconst (v := (-1)) hx hb dX7_line_13 (by decide) ?_
      exact ur_iret C h hr hlocks (by rw [if_neg (fun z => by first | exact absurd z.1 (by assumption) | exact absurd z.2 (by assumption))]; exact ⟨rfl, rfl⟩) dX7_line_14
