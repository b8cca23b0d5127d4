/-! THE LAW'S LOOP -/
set_option maxHeartbeats 8000000 in
set_option maxRecDepth 100000 in
/-- one turn of the loop: the end, or one call and back -/
theorem law_turn {p : Program} {l : Launch} {e : Env} {s : State} {m : MethodId} {below : List Frame} {meth : Method} {c : Code} {E : uE} {S : uS} {b L : Nat} {xs : Nat → Int32} (C : lC E S b L xs p s m c) (hr : meth.sig.returnType = ret) (hlocks : meth.locks = false) (hfr : ∀ q, uA E q → s.heap.size ≤ q) (i : Nat) (hiL : i ≤ L + 7) (M : uM) (A : rAll M) (H : Heap) (locs : List Loc) (ls : Array Slot) (h : uH E M s H locs) (hl : lv_has ls 4 [(3, .int (nI i)), (0, .ref b), (1, .ref (E.2.1 0)), (2, .ref (E.2.1 251))])
    (ih : i + 7 ≤ L → ∀ (M' : uM), rAll M' → ∀ (H : Heap) (locs : List Loc) (ls : Array Slot), uH E M' s H locs → lv_has ls 4 [(3, .int (nI (i + 7))), (0, .ref b), (1, .ref (E.2.1 0)), (2, .ref (E.2.1 251))] → W p l e room_1 s m #[Value.ref b] below meth c H locs 263 4733 (lw_Z below #[Value.ref b] s) (F0 m 18 ls [])) :
    W p l e room_1 s m #[Value.ref b] below meth c H locs 263 4733 (lw_Z below #[Value.ref b] s) (F0 m 18 ls []) := by
  have hx := C.1.1.1
  have hb := C.1.1.2.1
  have hL := C.2.2.2.2.2
  refine lv_iload_n hx hb dL_law_18 rfl (lv_at hl 0 rfl) ?_
  refine lv_aload_n hx hb dL_law_19 rfl (lv_at hl 1 rfl) ?_
  refine va_slen hx hb C.2.2.1 C.2.2.2.1 C.2.2.2.2.1 h.2 dL_law_20 ?_
  refine lv_bipush (v := 7) hx hb dL_law_21 (by decide) ?_
  refine lv_isub hx hb dL_law_23 ?_
  have e7 : (Int32.ofNat L - 7).toInt = (L : Int) - 7 := by
    have z7 : (7 : Int32).toInt = 7 := rfl
    have zL : (Int32.ofNat L).toInt = L := nI_toInt (n := L) (by omega)
    rw [u_subI (by rw [zL, z7]; omega) (by rw [zL, z7]; omega), zL, z7]
  have ei : (nI i).toInt = i := nI_toInt (by omega)
  refine lv_icmp_gt (tgt := 1290) hx hb dL_law_24 (by decide) (fun _ => ?_) (fun z => ?_)
  · refine lv_iconst (v := 1) hx hb dL_law_1290 (by decide) ?_
    refine va_forget (fun q hq => hfr _ (h.2.2.2 q hq)) ?_
    refine W.widen (k := 600000) (n := 7302250) (by decide) (by decide) ?_
    exact lw_ret hx hb hr hlocks dL_law_1291
  · have hi : i + 7 ≤ L := by
      rw [Int32.lt_iff_toInt_lt, e7, ei] at z
      omega
    refine lv_aload_n hx hb dL_law_27 rfl (lv_at hl 1 rfl) ?_
    refine lv_iload_n hx hb dL_law_28 rfl (lv_at hl 0 rfl) ?_
    refine lr_sld C h i (by omega) rfl dL_law_29 ?_
    refine lv_bipush (v := 31) hx hb dL_law_30 (by decide) ?_
    refine lv_iand hx hb dL_law_32 ?_
    have back : ∀ (M' : uM) (H : Heap) (locs : List Loc), rAll M' → uH E M' s H locs → W p l e room_1 s m #[Value.ref b] below meth c H locs 263 4733 (lw_Z below #[Value.ref b] s) (F0 m 1284 ls []) := by
      intro M' H locs A' h'
      refine lv_iinc (v := nI (i + 7)) (lv' := [(3, .int (nI (i + 7))), (0, .ref b), (1, .ref (E.2.1 0)), (2, .ref (E.2.1 251))]) hx hb dL_law_1284 hl (k := 0) rfl (nI_add i 7) (by decide) rfl (fun ls hl => ?_)
      refine lv_goto (tgt := 18) hx hb dL_law_1287 (by decide) ?_
      exact ih hi M' A' H locs ls h' hl
    obtain ⟨j, hj, ej⟩ := pk_andE (xs i) (m := 31) 5 (by decide)
    generalize xs i &&& 31 = w at ej ⊢
    match j, hj, ej with
      | 0, _, ej => exact lv_tableIn (off := 143) (tgt := 176) hx hb dL_law_33 (by rw [ej]; decide) (by rw [ej]; decide) (by rw [ej]; rfl) (by decide) (lwc_speaker C i hi A h hl back)
      | 1, _, ej => exact lv_tableIn (off := 186) (tgt := 219) hx hb dL_law_33 (by rw [ej]; decide) (by rw [ej]; decide) (by rw [ej]; rfl) (by decide) (lwc_can C i hi A h hl back)
      | 2, _, ej => exact lv_tableIn (off := 229) (tgt := 262) hx hb dL_law_33 (by rw [ej]; decide) (by rw [ej]; decide) (by rw [ej]; rfl) (by decide) (lwc_word C i hi A h hl back)
      | 3, _, ej => exact lv_tableIn (off := 252) (tgt := 285) hx hb dL_law_33 (by rw [ej]; decide) (by rw [ej]; decide) (by rw [ej]; rfl) (by decide) (lwc_guard C i hi A h hl back)
      | 4, _, ej => exact lv_tableIn (off := 285) (tgt := 318) hx hb dL_law_33 (by rw [ej]; decide) (by rw [ej]; decide) (by rw [ej]; rfl) (by decide) (lwc_of C i hi A h hl back)
      | 5, _, ej => exact lv_tableIn (off := 318) (tgt := 351) hx hb dL_law_33 (by rw [ej]; decide) (by rw [ej]; decide) (by rw [ej]; rfl) (by decide) (lwc_skill C i hi A h hl back)
      | 6, _, ej => exact lv_tableIn (off := 361) (tgt := 394) hx hb dL_law_33 (by rw [ej]; decide) (by rw [ej]; decide) (by rw [ej]; rfl) (by decide) (lwc_type C i hi A h hl back)
      | 7, _, ej => exact lv_tableIn (off := 384) (tgt := 417) hx hb dL_law_33 (by rw [ej]; decide) (by rw [ej]; decide) (by rw [ej]; rfl) (by decide) (lwc_tongues C i hi A h hl back)
      | 8, _, ej => exact lv_tableIn (off := 397) (tgt := 430) hx hb dL_law_33 (by rw [ej]; decide) (by rw [ej]; decide) (by rw [ej]; rfl) (by decide) (lwc_count C i hi A h hl back)
      | 9, _, ej => exact lv_tableIn (off := 420) (tgt := 453) hx hb dL_law_33 (by rw [ej]; decide) (by rw [ej]; decide) (by rw [ej]; rfl) (by decide) (lwc_worn C i hi A h hl back)
      | 10, _, ej => exact lv_tableIn (off := 453) (tgt := 486) hx hb dL_law_33 (by rw [ej]; decide) (by rw [ej]; decide) (by rw [ej]; rfl) (by decide) (lwc_ask C i hi A h hl back)
      | 11, _, ej => exact lv_tableIn (off := 486) (tgt := 519) hx hb dL_law_33 (by rw [ej]; decide) (by rw [ej]; decide) (by rw [ej]; rfl) (by decide) (lwc_said C i hi A h hl back)
      | 12, _, ej => exact lv_tableIn (off := 529) (tgt := 562) hx hb dL_law_33 (by rw [ej]; decide) (by rw [ej]; decide) (by rw [ej]; rfl) (by decide) (lwc_teach C i hi A h hl back)
      | 13, _, ej => exact lv_tableIn (off := 562) (tgt := 595) hx hb dL_law_33 (by rw [ej]; decide) (by rw [ej]; decide) (by rw [ej]; rfl) (by decide) (lwc_rest C i hi A h hl back)
      | 14, _, ej => exact lv_tableIn (off := 575) (tgt := 608) hx hb dL_law_33 (by rw [ej]; decide) (by rw [ej]; decide) (by rw [ej]; rfl) (by decide) (lwc_undo C i hi A h hl back)
      | 15, _, ej => exact lv_tableIn (off := 588) (tgt := 621) hx hb dL_law_33 (by rw [ej]; decide) (by rw [ej]; decide) (by rw [ej]; rfl) (by decide) (lwc_seed C i hi A h hl back)
      | 16, _, ej => exact lv_tableIn (off := 611) (tgt := 644) hx hb dL_law_33 (by rw [ej]; decide) (by rw [ej]; decide) (by rw [ej]; rfl) (by decide) (lwc_pass C i hi A h hl back)
      | 17, _, ej => exact lv_tableIn (off := 654) (tgt := 687) hx hb dL_law_33 (by rw [ej]; decide) (by rw [ej]; decide) (by rw [ej]; rfl) (by decide) (lwc_wrongs C i hi A h hl back)
      | 18, _, ej => exact lv_tableIn (off := 677) (tgt := 710) hx hb dL_law_33 (by rw [ej]; decide) (by rw [ej]; decide) (by rw [ej]; rfl) (by decide) (lwc_parting C i hi A h hl back)
      | 19, _, ej => exact lv_tableIn (off := 700) (tgt := 733) hx hb dL_law_33 (by rw [ej]; decide) (by rw [ej]; decide) (by rw [ej]; rfl) (by decide) (lwc_learn C i hi A h hl back)
      | 20, _, ej => exact lv_tableIn (off := 753) (tgt := 786) hx hb dL_law_33 (by rw [ej]; decide) (by rw [ej]; decide) (by rw [ej]; rfl) (by decide) (lwc_cross C i hi A h hl back)
      | 21, _, ej => exact lv_tableIn (off := 796) (tgt := 829) hx hb dL_law_33 (by rw [ej]; decide) (by rw [ej]; decide) (by rw [ej]; rfl) (by decide) (lwc_line C i hi A h hl back)
      | 22, _, ej => exact lv_tableIn (off := 829) (tgt := 862) hx hb dL_law_33 (by rw [ej]; decide) (by rw [ej]; decide) (by rw [ej]; rfl) (by decide) (lwc_proof C i hi A h hl back)
      | 23, _, ej => exact lv_tableIn (off := 852) (tgt := 885) hx hb dL_law_33 (by rw [ej]; decide) (by rw [ej]; decide) (by rw [ej]; rfl) (by decide) (lwc_heardWrong C i hi A h hl back)
      | 24, _, ej => exact lv_tableIn (off := 875) (tgt := 908) hx hb dL_law_33 (by rw [ej]; decide) (by rw [ej]; decide) (by rw [ej]; rfl) (by decide) (lwc_image C i hi A h hl back)
      | 25, _, ej => exact lv_tableIn (off := 888) (tgt := 921) hx hb dL_law_33 (by rw [ej]; decide) (by rw [ej]; decide) (by rw [ej]; rfl) (by decide) (lwc_restore C i hi A h hl back)
      | 26, _, ej => exact lv_tableIn (off := 901) (tgt := 934) hx hb dL_law_33 (by rw [ej]; decide) (by rw [ej]; decide) (by rw [ej]; rfl) (by decide) (lwc_who C i hi A h hl back)
      | 27, _, ej => exact lv_tableIn (off := 964) (tgt := 997) hx hb dL_law_33 (by rw [ej]; decide) (by rw [ej]; decide) (by rw [ej]; rfl) (by decide) (lwc_film C i hi A h hl back)
      | 28, _, ej => exact lv_tableIn (off := 1039) (tgt := 1072) hx hb dL_law_33 (by rw [ej]; decide) (by rw [ej]; decide) (by rw [ej]; rfl) (by decide) (lwc_sheet C i hi A h hl back)
      | 29, _, ej => exact lv_tableIn (off := 1082) (tgt := 1115) hx hb dL_law_33 (by rw [ej]; decide) (by rw [ej]; decide) (by rw [ej]; rfl) (by decide) (lwc_drop C i hi A h hl back)
      | 30, _, ej => exact lv_tableIn (off := 1105) (tgt := 1138) hx hb dL_law_33 (by rw [ej]; decide) (by rw [ej]; decide) (by rw [ej]; rfl) (by decide) (lwc_item C i hi A h hl back)
      | 31, _, ej => exact lv_tableIn (off := 1188) (tgt := 1221) hx hb dL_law_33 (by rw [ej]; decide) (by rw [ej]; decide) (by rw [ej]; rfl) (by decide) (lwc_copy C i hi A h hl back)
      | j + 32, hj, _ => exact absurd hj (by omega)
theorem law_loop {p : Program} {l : Launch} {e : Env} {s : State} {m : MethodId} {below : List Frame} {meth : Method} {c : Code} {E : uE} {S : uS} {b L : Nat} {xs : Nat → Int32} (C : lC E S b L xs p s m c) (hr : meth.sig.returnType = ret) (hlocks : meth.locks = false) (hfr : ∀ q, uA E q → s.heap.size ≤ q) : ∀ (k i : Nat), L < i + k → i ≤ L + 7 → ∀ (M : uM), rAll M → ∀ (H : Heap) (locs : List Loc) (ls : Array Slot), uH E M s H locs → lv_has ls 4 [(3, .int (nI i)), (0, .ref b), (1, .ref (E.2.1 0)), (2, .ref (E.2.1 251))] →
    W p l e room_1 s m #[Value.ref b] below meth c H locs 263 4733 (lw_Z below #[Value.ref b] s) (F0 m 18 ls []) := by
  intro k
  induction k with
  | zero =>
    intro i h1 h2 M A H locs ls h hl
    exact law_turn C hr hlocks hfr i h2 M A H locs ls h hl (fun z => by omega)
  | succ k ih =>
    intro i h1 h2 M A H locs ls h hl
    exact law_turn C hr hlocks hfr i h2 M A H locs ls h hl (fun z M' A' H locs ls h' hl' => ih (i + 7) (by omega) (by omega) M' A' H locs ls h' hl')
