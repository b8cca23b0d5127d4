/-! the law, its cases -/
set_option maxHeartbeats 4000000 in
set_option maxRecDepth 100000 in
theorem lwc_pass {p : Program} {l : Launch} {e : Env} {s : State} {m : MethodId} {below : List Frame} {meth : Method} {c : Code} {Q : State → Prop} {E : uE} {S : uS} {b L : Nat} {xs : Nat → Int32} (C : lC E S b L xs p s m c) (i : Nat) (hi : i + 7 ≤ L) {M : uM} (A : rAll M) {H : Heap} {locs : List Loc} {ls : Array Slot} (h : uH E M s H locs) (hl : lv_has ls 4 [(3, .int (nI i)), (0, .ref b), (1, .ref (E.2.1 0)), (2, .ref (E.2.1 251))])
    (kk : ∀ (M' : uM) (H : Heap) (locs : List Loc), rAll M' → uH E M' s H locs → W p l e room_1 s m #[Value.ref b] below meth c H locs 263 4733 Q (F0 m 1284 ls [])) : W p l e room_1 s m #[Value.ref b] below meth c H locs 263 4733 Q (F0 m 644 ls []) := by
  have hx := C.1.1.1
  have hb := C.1.1.2.1
  have hown := C.1.1.2.2.2.1
  have hts := C.1.1.2.2.2.2
  have hI := C.1.2.2.2
  obtain ⟨Q1, hM1, K1⟩ := z6_pass l E hI M A ((xs (i + 1))) ((xs (i + 2))) ((xs (i + 3)))
  refine lv_aload_n hx hb dL_law_644 rfl (lv_at hl 2 rfl) ?_
  refine lv_aload_n hx hb dL_law_645 rfl (lv_at hl 1 rfl) ?_
  refine lv_iload_n hx hb dL_law_646 rfl (lv_at hl 0 rfl) ?_
  refine lv_iconst (v := 1) hx hb dL_law_647 (by decide) ?_
  refine lv_iadd hx hb dL_law_648 ?_
  refine lr_sld C h (i + 1) (by omega) (nI_add i 1) dL_law_649 ?_
  refine lv_aload_n hx hb dL_law_650 rfl (lv_at hl 1 rfl) ?_
  refine lv_iload_n hx hb dL_law_651 rfl (lv_at hl 0 rfl) ?_
  refine lv_iconst (v := 2) hx hb dL_law_652 (by decide) ?_
  refine lv_iadd hx hb dL_law_653 ?_
  refine lr_sld C h (i + 2) (by omega) (nI_add i 2) dL_law_654 ?_
  refine lv_aload_n hx hb dL_law_655 rfl (lv_at hl 1 rfl) ?_
  refine lv_iload_n hx hb dL_law_656 rfl (lv_at hl 0 rfl) ?_
  refine lv_iconst (v := 3) hx hb dL_law_657 (by decide) ?_
  refine lv_iadd hx hb dL_law_658 ?_
  refine lr_sld C h (i + 3) (by omega) (nI_add i 3) dL_law_659 ?_
  refine lr_call C h (k := 0) (As := [.int (xs (i + 1)), .int (xs (i + 2)), .int (xs (i + 3))]) (rest := []) hM1 (cwV 3 hts gL_law_X6_pass rfl rfl rfl (by decide +kernel) ⟨Nat.le_of_ble_eq_true rfl, Nat.le_of_ble_eq_true rfl⟩) (by decide) (uc_0 E _) (T := TX6) (N := 6) rfl rfl hl.1 rfl (Nat.le_of_ble_eq_true rfl) dL_law_660 (fun r1 M1 H locs hw1 h => ?_)
  obtain ⟨Q2, hM2, K2⟩ := K1 r1 M1 hw1
  refine lv_aload_n hx hb dL_law_663 rfl (lv_at hl 3 rfl) ?_
  refine lv_aload_n hx hb dL_law_664 rfl (lv_at hl 1 rfl) ?_
  refine lv_iload_n hx hb dL_law_665 rfl (lv_at hl 0 rfl) ?_
  refine lv_iconst (v := 1) hx hb dL_law_666 (by decide) ?_
  refine lv_iadd hx hb dL_law_667 ?_
  refine lr_sld C h (i + 1) (by omega) (nI_add i 1) dL_law_668 ?_
  refine lv_aload_n hx hb dL_law_669 rfl (lv_at hl 1 rfl) ?_
  refine lv_iload_n hx hb dL_law_670 rfl (lv_at hl 0 rfl) ?_
  refine lv_iconst (v := 2) hx hb dL_law_671 (by decide) ?_
  refine lv_iadd hx hb dL_law_672 ?_
  refine lr_sld C h (i + 2) (by omega) (nI_add i 2) dL_law_673 ?_
  refine lv_aload_n hx hb dL_law_674 rfl (lv_at hl 1 rfl) ?_
  refine lv_iload_n hx hb dL_law_675 rfl (lv_at hl 0 rfl) ?_
  refine lv_iconst (v := 3) hx hb dL_law_676 (by decide) ?_
  refine lv_iadd hx hb dL_law_677 ?_
  refine lr_sld C h (i + 3) (by omega) (nI_add i 3) dL_law_678 ?_
  refine lr_call C h (k := 251) (As := [.int (xs (i + 1)), .int (xs (i + 2)), .int (xs (i + 3))]) (rest := [.int r1]) hM2 (cwV 3 hts gL_law_X7_pass rfl rfl rfl (by decide +kernel) ⟨Nat.le_of_ble_eq_true rfl, Nat.le_of_ble_eq_true rfl⟩) (by decide) (uc_251 E _) (T := TX7) (N := 17) rfl rfl hl.1 rfl (Nat.le_of_ble_eq_true rfl) dL_law_679 (fun r2 M2 H locs hw2 h => ?_)
  obtain ⟨er, A2⟩ := K2 r2 M2 hw2
  exact lv_icmp_eq (tgt := 1284) hx hb dL_law_682 (by decide) (fun _ => kk M2 H locs A2 h) (fun z => absurd er z)
set_option maxHeartbeats 4000000 in
set_option maxRecDepth 100000 in
theorem lwc_wrongs {p : Program} {l : Launch} {e : Env} {s : State} {m : MethodId} {below : List Frame} {meth : Method} {c : Code} {Q : State → Prop} {E : uE} {S : uS} {b L : Nat} {xs : Nat → Int32} (C : lC E S b L xs p s m c) (i : Nat) (hi : i + 7 ≤ L) {M : uM} (A : rAll M) {H : Heap} {locs : List Loc} {ls : Array Slot} (h : uH E M s H locs) (hl : lv_has ls 4 [(3, .int (nI i)), (0, .ref b), (1, .ref (E.2.1 0)), (2, .ref (E.2.1 251))])
    (kk : ∀ (M' : uM) (H : Heap) (locs : List Loc), rAll M' → uH E M' s H locs → W p l e room_1 s m #[Value.ref b] below meth c H locs 263 4733 Q (F0 m 1284 ls [])) : W p l e room_1 s m #[Value.ref b] below meth c H locs 263 4733 Q (F0 m 687 ls []) := by
  have hx := C.1.1.1
  have hb := C.1.1.2.1
  have hown := C.1.1.2.2.2.1
  have hts := C.1.1.2.2.2.2
  have hI := C.1.2.2.2
  obtain ⟨Q1, hM1, K1⟩ := z6_wrongs l E hI M A ((xs (i + 1)))
  refine lv_aload_n hx hb dL_law_687 rfl (lv_at hl 2 rfl) ?_
  refine lv_aload_n hx hb dL_law_688 rfl (lv_at hl 1 rfl) ?_
  refine lv_iload_n hx hb dL_law_689 rfl (lv_at hl 0 rfl) ?_
  refine lv_iconst (v := 1) hx hb dL_law_690 (by decide) ?_
  refine lv_iadd hx hb dL_law_691 ?_
  refine lr_sld C h (i + 1) (by omega) (nI_add i 1) dL_law_692 ?_
  refine lr_call C h (k := 0) (As := [.int (xs (i + 1))]) (rest := []) hM1 (cwV 1 hts gL_law_X6_wrongs rfl rfl rfl (by decide +kernel) ⟨Nat.le_of_ble_eq_true rfl, Nat.le_of_ble_eq_true rfl⟩) (by decide) (uc_0 E _) (T := TX6) (N := 6) rfl rfl hl.1 rfl (Nat.le_of_ble_eq_true rfl) dL_law_693 (fun r1 M1 H locs hw1 h => ?_)
  obtain ⟨Q2, hM2, K2⟩ := K1 r1 M1 hw1
  refine lv_aload_n hx hb dL_law_696 rfl (lv_at hl 3 rfl) ?_
  refine lv_aload_n hx hb dL_law_697 rfl (lv_at hl 1 rfl) ?_
  refine lv_iload_n hx hb dL_law_698 rfl (lv_at hl 0 rfl) ?_
  refine lv_iconst (v := 1) hx hb dL_law_699 (by decide) ?_
  refine lv_iadd hx hb dL_law_700 ?_
  refine lr_sld C h (i + 1) (by omega) (nI_add i 1) dL_law_701 ?_
  refine lr_call C h (k := 251) (As := [.int (xs (i + 1))]) (rest := [.int r1]) hM2 (cwV 1 hts gL_law_X7_wrongs rfl rfl rfl (by decide +kernel) ⟨Nat.le_of_ble_eq_true rfl, Nat.le_of_ble_eq_true rfl⟩) (by decide) (uc_251 E _) (T := TX7) (N := 17) rfl rfl hl.1 rfl (Nat.le_of_ble_eq_true rfl) dL_law_702 (fun r2 M2 H locs hw2 h => ?_)
  obtain ⟨er, A2⟩ := K2 r2 M2 hw2
  exact lv_icmp_eq (tgt := 1284) hx hb dL_law_705 (by decide) (fun _ => kk M2 H locs A2 h) (fun z => absurd er z)
set_option maxHeartbeats 4000000 in
set_option maxRecDepth 100000 in
theorem lwc_parting {p : Program} {l : Launch} {e : Env} {s : State} {m : MethodId} {below : List Frame} {meth : Method} {c : Code} {Q : State → Prop} {E : uE} {S : uS} {b L : Nat} {xs : Nat → Int32} (C : lC E S b L xs p s m c) (i : Nat) (hi : i + 7 ≤ L) {M : uM} (A : rAll M) {H : Heap} {locs : List Loc} {ls : Array Slot} (h : uH E M s H locs) (hl : lv_has ls 4 [(3, .int (nI i)), (0, .ref b), (1, .ref (E.2.1 0)), (2, .ref (E.2.1 251))])
    (kk : ∀ (M' : uM) (H : Heap) (locs : List Loc), rAll M' → uH E M' s H locs → W p l e room_1 s m #[Value.ref b] below meth c H locs 263 4733 Q (F0 m 1284 ls [])) : W p l e room_1 s m #[Value.ref b] below meth c H locs 263 4733 Q (F0 m 710 ls []) := by
  have hx := C.1.1.1
  have hb := C.1.1.2.1
  have hown := C.1.1.2.2.2.1
  have hts := C.1.1.2.2.2.2
  have hI := C.1.2.2.2
  obtain ⟨Q1, hM1, K1⟩ := z6_parting l E hI M A ((xs (i + 1)))
  refine lv_aload_n hx hb dL_law_710 rfl (lv_at hl 2 rfl) ?_
  refine lv_aload_n hx hb dL_law_711 rfl (lv_at hl 1 rfl) ?_
  refine lv_iload_n hx hb dL_law_712 rfl (lv_at hl 0 rfl) ?_
  refine lv_iconst (v := 1) hx hb dL_law_713 (by decide) ?_
  refine lv_iadd hx hb dL_law_714 ?_
  refine lr_sld C h (i + 1) (by omega) (nI_add i 1) dL_law_715 ?_
  refine lr_call C h (k := 0) (As := [.int (xs (i + 1))]) (rest := []) hM1 (cwV 1 hts gL_law_X6_parting rfl rfl rfl (by decide +kernel) ⟨Nat.le_of_ble_eq_true rfl, Nat.le_of_ble_eq_true rfl⟩) (by decide) (uc_0 E _) (T := TX6) (N := 6) rfl rfl hl.1 rfl (Nat.le_of_ble_eq_true rfl) dL_law_716 (fun r1 M1 H locs hw1 h => ?_)
  obtain ⟨Q2, hM2, K2⟩ := K1 r1 M1 hw1
  refine lv_aload_n hx hb dL_law_719 rfl (lv_at hl 3 rfl) ?_
  refine lv_aload_n hx hb dL_law_720 rfl (lv_at hl 1 rfl) ?_
  refine lv_iload_n hx hb dL_law_721 rfl (lv_at hl 0 rfl) ?_
  refine lv_iconst (v := 1) hx hb dL_law_722 (by decide) ?_
  refine lv_iadd hx hb dL_law_723 ?_
  refine lr_sld C h (i + 1) (by omega) (nI_add i 1) dL_law_724 ?_
  refine lr_call C h (k := 251) (As := [.int (xs (i + 1))]) (rest := [.int r1]) hM2 (cwV 1 hts gL_law_X7_parting rfl rfl rfl (by decide +kernel) ⟨Nat.le_of_ble_eq_true rfl, Nat.le_of_ble_eq_true rfl⟩) (by decide) (uc_251 E _) (T := TX7) (N := 17) rfl rfl hl.1 rfl (Nat.le_of_ble_eq_true rfl) dL_law_725 (fun r2 M2 H locs hw2 h => ?_)
  obtain ⟨er, A2⟩ := K2 r2 M2 hw2
  exact lv_icmp_eq (tgt := 1284) hx hb dL_law_728 (by decide) (fun _ => kk M2 H locs A2 h) (fun z => absurd er z)
set_option maxHeartbeats 4000000 in
set_option maxRecDepth 100000 in
theorem lwc_learn {p : Program} {l : Launch} {e : Env} {s : State} {m : MethodId} {below : List Frame} {meth : Method} {c : Code} {Q : State → Prop} {E : uE} {S : uS} {b L : Nat} {xs : Nat → Int32} (C : lC E S b L xs p s m c) (i : Nat) (hi : i + 7 ≤ L) {M : uM} (A : rAll M) {H : Heap} {locs : List Loc} {ls : Array Slot} (h : uH E M s H locs) (hl : lv_has ls 4 [(3, .int (nI i)), (0, .ref b), (1, .ref (E.2.1 0)), (2, .ref (E.2.1 251))])
    (kk : ∀ (M' : uM) (H : Heap) (locs : List Loc), rAll M' → uH E M' s H locs → W p l e room_1 s m #[Value.ref b] below meth c H locs 263 4733 Q (F0 m 1284 ls [])) : W p l e room_1 s m #[Value.ref b] below meth c H locs 263 4733 Q (F0 m 733 ls []) := by
  have hx := C.1.1.1
  have hb := C.1.1.2.1
  have hown := C.1.1.2.2.2.1
  have hts := C.1.1.2.2.2.2
  have hI := C.1.2.2.2
  obtain ⟨Q1, hM1, K1⟩ := z6_learn l E hI M A ((xs (i + 1))) ((xs (i + 2))) ((xs (i + 3))) ((xs (i + 4)))
  refine lv_aload_n hx hb dL_law_733 rfl (lv_at hl 2 rfl) ?_
  refine lv_aload_n hx hb dL_law_734 rfl (lv_at hl 1 rfl) ?_
  refine lv_iload_n hx hb dL_law_735 rfl (lv_at hl 0 rfl) ?_
  refine lv_iconst (v := 1) hx hb dL_law_736 (by decide) ?_
  refine lv_iadd hx hb dL_law_737 ?_
  refine lr_sld C h (i + 1) (by omega) (nI_add i 1) dL_law_738 ?_
  refine lv_aload_n hx hb dL_law_739 rfl (lv_at hl 1 rfl) ?_
  refine lv_iload_n hx hb dL_law_740 rfl (lv_at hl 0 rfl) ?_
  refine lv_iconst (v := 2) hx hb dL_law_741 (by decide) ?_
  refine lv_iadd hx hb dL_law_742 ?_
  refine lr_sld C h (i + 2) (by omega) (nI_add i 2) dL_law_743 ?_
  refine lv_aload_n hx hb dL_law_744 rfl (lv_at hl 1 rfl) ?_
  refine lv_iload_n hx hb dL_law_745 rfl (lv_at hl 0 rfl) ?_
  refine lv_iconst (v := 3) hx hb dL_law_746 (by decide) ?_
  refine lv_iadd hx hb dL_law_747 ?_
  refine lr_sld C h (i + 3) (by omega) (nI_add i 3) dL_law_748 ?_
  refine lv_aload_n hx hb dL_law_749 rfl (lv_at hl 1 rfl) ?_
  refine lv_iload_n hx hb dL_law_750 rfl (lv_at hl 0 rfl) ?_
  refine lv_iconst (v := 4) hx hb dL_law_751 (by decide) ?_
  refine lv_iadd hx hb dL_law_752 ?_
  refine lr_sld C h (i + 4) (by omega) (nI_add i 4) dL_law_753 ?_
  refine lr_call C h (k := 0) (As := [.int (xs (i + 1)), .int (xs (i + 2)), .int (xs (i + 3)), .int (xs (i + 4))]) (rest := []) hM1 (cwV 4 hts gL_law_X6_learn rfl rfl rfl (by decide +kernel) ⟨Nat.le_of_ble_eq_true rfl, Nat.le_of_ble_eq_true rfl⟩) (by decide) (uc_0 E _) (T := TX6) (N := 6) rfl rfl hl.1 rfl (Nat.le_of_ble_eq_true rfl) dL_law_754 (fun r1 M1 H locs hw1 h => ?_)
  obtain ⟨Q2, hM2, K2⟩ := K1 r1 M1 hw1
  refine lv_aload_n hx hb dL_law_757 rfl (lv_at hl 3 rfl) ?_
  refine lv_aload_n hx hb dL_law_758 rfl (lv_at hl 1 rfl) ?_
  refine lv_iload_n hx hb dL_law_759 rfl (lv_at hl 0 rfl) ?_
  refine lv_iconst (v := 1) hx hb dL_law_760 (by decide) ?_
  refine lv_iadd hx hb dL_law_761 ?_
  refine lr_sld C h (i + 1) (by omega) (nI_add i 1) dL_law_762 ?_
  refine lv_aload_n hx hb dL_law_763 rfl (lv_at hl 1 rfl) ?_
  refine lv_iload_n hx hb dL_law_764 rfl (lv_at hl 0 rfl) ?_
  refine lv_iconst (v := 2) hx hb dL_law_765 (by decide) ?_
  refine lv_iadd hx hb dL_law_766 ?_
  refine lr_sld C h (i + 2) (by omega) (nI_add i 2) dL_law_767 ?_
  refine lv_aload_n hx hb dL_law_768 rfl (lv_at hl 1 rfl) ?_
  refine lv_iload_n hx hb dL_law_769 rfl (lv_at hl 0 rfl) ?_
  refine lv_iconst (v := 3) hx hb dL_law_770 (by decide) ?_
  refine lv_iadd hx hb dL_law_771 ?_
  refine lr_sld C h (i + 3) (by omega) (nI_add i 3) dL_law_772 ?_
  refine lv_aload_n hx hb dL_law_773 rfl (lv_at hl 1 rfl) ?_
  refine lv_iload_n hx hb dL_law_774 rfl (lv_at hl 0 rfl) ?_
  refine lv_iconst (v := 4) hx hb dL_law_775 (by decide) ?_
  refine lv_iadd hx hb dL_law_776 ?_
  refine lr_sld C h (i + 4) (by omega) (nI_add i 4) dL_law_777 ?_
  refine lr_call C h (k := 251) (As := [.int (xs (i + 1)), .int (xs (i + 2)), .int (xs (i + 3)), .int (xs (i + 4))]) (rest := [.int r1]) hM2 (cwV 4 hts gL_law_X7_learn rfl rfl rfl (by decide +kernel) ⟨Nat.le_of_ble_eq_true rfl, Nat.le_of_ble_eq_true rfl⟩) (by decide) (uc_251 E _) (T := TX7) (N := 17) rfl rfl hl.1 rfl (Nat.le_of_ble_eq_true rfl) dL_law_778 (fun r2 M2 H locs hw2 h => ?_)
  obtain ⟨er, A2⟩ := K2 r2 M2 hw2
  exact lv_icmp_eq (tgt := 1284) hx hb dL_law_781 (by decide) (fun _ => kk M2 H locs A2 h) (fun z => absurd er z)
set_option maxHeartbeats 4000000 in
set_option maxRecDepth 100000 in
theorem lwc_cross {p : Program} {l : Launch} {e : Env} {s : State} {m : MethodId} {below : List Frame} {meth : Method} {c : Code} {Q : State → Prop} {E : uE} {S : uS} {b L : Nat} {xs : Nat → Int32} (C : lC E S b L xs p s m c) (i : Nat) (hi : i + 7 ≤ L) {M : uM} (A : rAll M) {H : Heap} {locs : List Loc} {ls : Array Slot} (h : uH E M s H locs) (hl : lv_has ls 4 [(3, .int (nI i)), (0, .ref b), (1, .ref (E.2.1 0)), (2, .ref (E.2.1 251))])
    (kk : ∀ (M' : uM) (H : Heap) (locs : List Loc), rAll M' → uH E M' s H locs → W p l e room_1 s m #[Value.ref b] below meth c H locs 263 4733 Q (F0 m 1284 ls [])) : W p l e room_1 s m #[Value.ref b] below meth c H locs 263 4733 Q (F0 m 786 ls []) := by
  have hx := C.1.1.1
  have hb := C.1.1.2.1
  have hown := C.1.1.2.2.2.1
  have hts := C.1.1.2.2.2.2
  have hI := C.1.2.2.2
  obtain ⟨Q1, hM1, K1⟩ := z6_cross l E hI M A ((xs (i + 1))) ((xs (i + 2))) ((xs (i + 3)))
  refine lv_aload_n hx hb dL_law_786 rfl (lv_at hl 2 rfl) ?_
  refine lv_aload_n hx hb dL_law_787 rfl (lv_at hl 1 rfl) ?_
  refine lv_iload_n hx hb dL_law_788 rfl (lv_at hl 0 rfl) ?_
  refine lv_iconst (v := 1) hx hb dL_law_789 (by decide) ?_
  refine lv_iadd hx hb dL_law_790 ?_
  refine lr_sld C h (i + 1) (by omega) (nI_add i 1) dL_law_791 ?_
  refine lv_aload_n hx hb dL_law_792 rfl (lv_at hl 1 rfl) ?_
  refine lv_iload_n hx hb dL_law_793 rfl (lv_at hl 0 rfl) ?_
  refine lv_iconst (v := 2) hx hb dL_law_794 (by decide) ?_
  refine lv_iadd hx hb dL_law_795 ?_
  refine lr_sld C h (i + 2) (by omega) (nI_add i 2) dL_law_796 ?_
  refine lv_aload_n hx hb dL_law_797 rfl (lv_at hl 1 rfl) ?_
  refine lv_iload_n hx hb dL_law_798 rfl (lv_at hl 0 rfl) ?_
  refine lv_iconst (v := 3) hx hb dL_law_799 (by decide) ?_
  refine lv_iadd hx hb dL_law_800 ?_
  refine lr_sld C h (i + 3) (by omega) (nI_add i 3) dL_law_801 ?_
  refine lr_call C h (k := 0) (As := [.int (xs (i + 1)), .int (xs (i + 2)), .int (xs (i + 3))]) (rest := []) hM1 (cwV 3 hts gL_law_X6_cross rfl rfl rfl (by decide +kernel) ⟨Nat.le_of_ble_eq_true rfl, Nat.le_of_ble_eq_true rfl⟩) (by decide) (uc_0 E _) (T := TX6) (N := 6) rfl rfl hl.1 rfl (Nat.le_of_ble_eq_true rfl) dL_law_802 (fun r1 M1 H locs hw1 h => ?_)
  obtain ⟨Q2, hM2, K2⟩ := K1 r1 M1 hw1
  refine lv_aload_n hx hb dL_law_805 rfl (lv_at hl 3 rfl) ?_
  refine lv_aload_n hx hb dL_law_806 rfl (lv_at hl 1 rfl) ?_
  refine lv_iload_n hx hb dL_law_807 rfl (lv_at hl 0 rfl) ?_
  refine lv_iconst (v := 1) hx hb dL_law_808 (by decide) ?_
  refine lv_iadd hx hb dL_law_809 ?_
  refine lr_sld C h (i + 1) (by omega) (nI_add i 1) dL_law_810 ?_
  refine lv_aload_n hx hb dL_law_811 rfl (lv_at hl 1 rfl) ?_
  refine lv_iload_n hx hb dL_law_812 rfl (lv_at hl 0 rfl) ?_
  refine lv_iconst (v := 2) hx hb dL_law_813 (by decide) ?_
  refine lv_iadd hx hb dL_law_814 ?_
  refine lr_sld C h (i + 2) (by omega) (nI_add i 2) dL_law_815 ?_
  refine lv_aload_n hx hb dL_law_816 rfl (lv_at hl 1 rfl) ?_
  refine lv_iload_n hx hb dL_law_817 rfl (lv_at hl 0 rfl) ?_
  refine lv_iconst (v := 3) hx hb dL_law_818 (by decide) ?_
  refine lv_iadd hx hb dL_law_819 ?_
  refine lr_sld C h (i + 3) (by omega) (nI_add i 3) dL_law_820 ?_
  refine lr_call C h (k := 251) (As := [.int (xs (i + 1)), .int (xs (i + 2)), .int (xs (i + 3))]) (rest := [.int r1]) hM2 (cwV 3 hts gL_law_X7_cross rfl rfl rfl (by decide +kernel) ⟨Nat.le_of_ble_eq_true rfl, Nat.le_of_ble_eq_true rfl⟩) (by decide) (uc_251 E _) (T := TX7) (N := 17) rfl rfl hl.1 rfl (Nat.le_of_ble_eq_true rfl) dL_law_821 (fun r2 M2 H locs hw2 h => ?_)
  obtain ⟨er, A2⟩ := K2 r2 M2 hw2
  exact lv_icmp_eq (tgt := 1284) hx hb dL_law_824 (by decide) (fun _ => kk M2 H locs A2 h) (fun z => absurd er z)
set_option maxHeartbeats 4000000 in
set_option maxRecDepth 100000 in
theorem lwc_line {p : Program} {l : Launch} {e : Env} {s : State} {m : MethodId} {below : List Frame} {meth : Method} {c : Code} {Q : State → Prop} {E : uE} {S : uS} {b L : Nat} {xs : Nat → Int32} (C : lC E S b L xs p s m c) (i : Nat) (hi : i + 7 ≤ L) {M : uM} (A : rAll M) {H : Heap} {locs : List Loc} {ls : Array Slot} (h : uH E M s H locs) (hl : lv_has ls 4 [(3, .int (nI i)), (0, .ref b), (1, .ref (E.2.1 0)), (2, .ref (E.2.1 251))])
    (kk : ∀ (M' : uM) (H : Heap) (locs : List Loc), rAll M' → uH E M' s H locs → W p l e room_1 s m #[Value.ref b] below meth c H locs 263 4733 Q (F0 m 1284 ls [])) : W p l e room_1 s m #[Value.ref b] below meth c H locs 263 4733 Q (F0 m 829 ls []) := by
  have hx := C.1.1.1
  have hb := C.1.1.2.1
  have hown := C.1.1.2.2.2.1
  have hts := C.1.1.2.2.2.2
  have hI := C.1.2.2.2
  obtain ⟨Q1, hM1, K1⟩ := z6_line l E hI M A ((xs (i + 1))) ((xs (i + 2)))
  refine lv_aload_n hx hb dL_law_829 rfl (lv_at hl 2 rfl) ?_
  refine lv_aload_n hx hb dL_law_830 rfl (lv_at hl 1 rfl) ?_
  refine lv_iload_n hx hb dL_law_831 rfl (lv_at hl 0 rfl) ?_
  refine lv_iconst (v := 1) hx hb dL_law_832 (by decide) ?_
  refine lv_iadd hx hb dL_law_833 ?_
  refine lr_sld C h (i + 1) (by omega) (nI_add i 1) dL_law_834 ?_
  refine lv_aload_n hx hb dL_law_835 rfl (lv_at hl 1 rfl) ?_
  refine lv_iload_n hx hb dL_law_836 rfl (lv_at hl 0 rfl) ?_
  refine lv_iconst (v := 2) hx hb dL_law_837 (by decide) ?_
  refine lv_iadd hx hb dL_law_838 ?_
  refine lr_sld C h (i + 2) (by omega) (nI_add i 2) dL_law_839 ?_
  refine lr_call C h (k := 0) (As := [.int (xs (i + 1)), .int (xs (i + 2))]) (rest := []) hM1 (cwV 2 hts gL_law_X6_line rfl rfl rfl (by decide +kernel) ⟨Nat.le_of_ble_eq_true rfl, Nat.le_of_ble_eq_true rfl⟩) (by decide) (uc_0 E _) (T := TX6) (N := 6) rfl rfl hl.1 rfl (Nat.le_of_ble_eq_true rfl) dL_law_840 (fun r1 M1 H locs hw1 h => ?_)
  obtain ⟨Q2, hM2, K2⟩ := K1 r1 M1 hw1
  refine lv_aload_n hx hb dL_law_843 rfl (lv_at hl 3 rfl) ?_
  refine lv_aload_n hx hb dL_law_844 rfl (lv_at hl 1 rfl) ?_
  refine lv_iload_n hx hb dL_law_845 rfl (lv_at hl 0 rfl) ?_
  refine lv_iconst (v := 1) hx hb dL_law_846 (by decide) ?_
  refine lv_iadd hx hb dL_law_847 ?_
  refine lr_sld C h (i + 1) (by omega) (nI_add i 1) dL_law_848 ?_
  refine lv_aload_n hx hb dL_law_849 rfl (lv_at hl 1 rfl) ?_
  refine lv_iload_n hx hb dL_law_850 rfl (lv_at hl 0 rfl) ?_
  refine lv_iconst (v := 2) hx hb dL_law_851 (by decide) ?_
  refine lv_iadd hx hb dL_law_852 ?_
  refine lr_sld C h (i + 2) (by omega) (nI_add i 2) dL_law_853 ?_
  refine lr_call C h (k := 251) (As := [.int (xs (i + 1)), .int (xs (i + 2))]) (rest := [.int r1]) hM2 (cwV 2 hts gL_law_X7_line rfl rfl rfl (by decide +kernel) ⟨Nat.le_of_ble_eq_true rfl, Nat.le_of_ble_eq_true rfl⟩) (by decide) (uc_251 E _) (T := TX7) (N := 17) rfl rfl hl.1 rfl (Nat.le_of_ble_eq_true rfl) dL_law_854 (fun r2 M2 H locs hw2 h => ?_)
  obtain ⟨er, A2⟩ := K2 r2 M2 hw2
  exact lv_icmp_eq (tgt := 1284) hx hb dL_law_857 (by decide) (fun _ => kk M2 H locs A2 h) (fun z => absurd er z)
set_option maxHeartbeats 4000000 in
set_option maxRecDepth 100000 in
theorem lwc_proof {p : Program} {l : Launch} {e : Env} {s : State} {m : MethodId} {below : List Frame} {meth : Method} {c : Code} {Q : State → Prop} {E : uE} {S : uS} {b L : Nat} {xs : Nat → Int32} (C : lC E S b L xs p s m c) (i : Nat) (hi : i + 7 ≤ L) {M : uM} (A : rAll M) {H : Heap} {locs : List Loc} {ls : Array Slot} (h : uH E M s H locs) (hl : lv_has ls 4 [(3, .int (nI i)), (0, .ref b), (1, .ref (E.2.1 0)), (2, .ref (E.2.1 251))])
    (kk : ∀ (M' : uM) (H : Heap) (locs : List Loc), rAll M' → uH E M' s H locs → W p l e room_1 s m #[Value.ref b] below meth c H locs 263 4733 Q (F0 m 1284 ls [])) : W p l e room_1 s m #[Value.ref b] below meth c H locs 263 4733 Q (F0 m 862 ls []) := by
  have hx := C.1.1.1
  have hb := C.1.1.2.1
  have hown := C.1.1.2.2.2.1
  have hts := C.1.1.2.2.2.2
  have hI := C.1.2.2.2
  obtain ⟨Q1, hM1, K1⟩ := z6_proof l E hI M A ((xs (i + 1)))
  refine lv_aload_n hx hb dL_law_862 rfl (lv_at hl 2 rfl) ?_
  refine lv_aload_n hx hb dL_law_863 rfl (lv_at hl 1 rfl) ?_
  refine lv_iload_n hx hb dL_law_864 rfl (lv_at hl 0 rfl) ?_
  refine lv_iconst (v := 1) hx hb dL_law_865 (by decide) ?_
  refine lv_iadd hx hb dL_law_866 ?_
  refine lr_sld C h (i + 1) (by omega) (nI_add i 1) dL_law_867 ?_
  refine lr_call C h (k := 0) (As := [.int (xs (i + 1))]) (rest := []) hM1 (cwV 1 hts gL_law_X6_proof rfl rfl rfl (by decide +kernel) ⟨Nat.le_of_ble_eq_true rfl, Nat.le_of_ble_eq_true rfl⟩) (by decide) (uc_0 E _) (T := TX6) (N := 6) rfl rfl hl.1 rfl (Nat.le_of_ble_eq_true rfl) dL_law_868 (fun r1 M1 H locs hw1 h => ?_)
  obtain ⟨Q2, hM2, K2⟩ := K1 r1 M1 hw1
  refine lv_aload_n hx hb dL_law_871 rfl (lv_at hl 3 rfl) ?_
  refine lv_aload_n hx hb dL_law_872 rfl (lv_at hl 1 rfl) ?_
  refine lv_iload_n hx hb dL_law_873 rfl (lv_at hl 0 rfl) ?_
  refine lv_iconst (v := 1) hx hb dL_law_874 (by decide) ?_
  refine lv_iadd hx hb dL_law_875 ?_
  refine lr_sld C h (i + 1) (by omega) (nI_add i 1) dL_law_876 ?_
  refine lr_call C h (k := 251) (As := [.int (xs (i + 1))]) (rest := [.int r1]) hM2 (cwV 1 hts gL_law_X7_proof rfl rfl rfl (by decide +kernel) ⟨Nat.le_of_ble_eq_true rfl, Nat.le_of_ble_eq_true rfl⟩) (by decide) (uc_251 E _) (T := TX7) (N := 17) rfl rfl hl.1 rfl (Nat.le_of_ble_eq_true rfl) dL_law_877 (fun r2 M2 H locs hw2 h => ?_)
  obtain ⟨er, A2⟩ := K2 r2 M2 hw2
  exact lv_icmp_eq (tgt := 1284) hx hb dL_law_880 (by decide) (fun _ => kk M2 H locs A2 h) (fun z => absurd er z)
set_option maxHeartbeats 4000000 in
set_option maxRecDepth 100000 in
theorem lwc_heardWrong {p : Program} {l : Launch} {e : Env} {s : State} {m : MethodId} {below : List Frame} {meth : Method} {c : Code} {Q : State → Prop} {E : uE} {S : uS} {b L : Nat} {xs : Nat → Int32} (C : lC E S b L xs p s m c) (i : Nat) (hi : i + 7 ≤ L) {M : uM} (A : rAll M) {H : Heap} {locs : List Loc} {ls : Array Slot} (h : uH E M s H locs) (hl : lv_has ls 4 [(3, .int (nI i)), (0, .ref b), (1, .ref (E.2.1 0)), (2, .ref (E.2.1 251))])
    (kk : ∀ (M' : uM) (H : Heap) (locs : List Loc), rAll M' → uH E M' s H locs → W p l e room_1 s m #[Value.ref b] below meth c H locs 263 4733 Q (F0 m 1284 ls [])) : W p l e room_1 s m #[Value.ref b] below meth c H locs 263 4733 Q (F0 m 885 ls []) := by
  have hx := C.1.1.1
  have hb := C.1.1.2.1
  have hown := C.1.1.2.2.2.1
  have hts := C.1.1.2.2.2.2
  have hI := C.1.2.2.2
  obtain ⟨Q1, hM1, K1⟩ := z6_heardWrong l E hI M A ((xs (i + 1)))
  refine lv_aload_n hx hb dL_law_885 rfl (lv_at hl 2 rfl) ?_
  refine lv_aload_n hx hb dL_law_886 rfl (lv_at hl 1 rfl) ?_
  refine lv_iload_n hx hb dL_law_887 rfl (lv_at hl 0 rfl) ?_
  refine lv_iconst (v := 1) hx hb dL_law_888 (by decide) ?_
  refine lv_iadd hx hb dL_law_889 ?_
  refine lr_sld C h (i + 1) (by omega) (nI_add i 1) dL_law_890 ?_
  refine lr_call C h (k := 0) (As := [.int (xs (i + 1))]) (rest := []) hM1 (cwV 1 hts gL_law_X6_heardWrong rfl rfl rfl (by decide +kernel) ⟨Nat.le_of_ble_eq_true rfl, Nat.le_of_ble_eq_true rfl⟩) (by decide) (uc_0 E _) (T := TX6) (N := 6) rfl rfl hl.1 rfl (Nat.le_of_ble_eq_true rfl) dL_law_891 (fun r1 M1 H locs hw1 h => ?_)
  obtain ⟨Q2, hM2, K2⟩ := K1 r1 M1 hw1
  refine lv_aload_n hx hb dL_law_894 rfl (lv_at hl 3 rfl) ?_
  refine lv_aload_n hx hb dL_law_895 rfl (lv_at hl 1 rfl) ?_
  refine lv_iload_n hx hb dL_law_896 rfl (lv_at hl 0 rfl) ?_
  refine lv_iconst (v := 1) hx hb dL_law_897 (by decide) ?_
  refine lv_iadd hx hb dL_law_898 ?_
  refine lr_sld C h (i + 1) (by omega) (nI_add i 1) dL_law_899 ?_
  refine lr_call C h (k := 251) (As := [.int (xs (i + 1))]) (rest := [.int r1]) hM2 (cwV 1 hts gL_law_X7_heardWrong rfl rfl rfl (by decide +kernel) ⟨Nat.le_of_ble_eq_true rfl, Nat.le_of_ble_eq_true rfl⟩) (by decide) (uc_251 E _) (T := TX7) (N := 17) rfl rfl hl.1 rfl (Nat.le_of_ble_eq_true rfl) dL_law_900 (fun r2 M2 H locs hw2 h => ?_)
  obtain ⟨er, A2⟩ := K2 r2 M2 hw2
  exact lv_icmp_eq (tgt := 1284) hx hb dL_law_903 (by decide) (fun _ => kk M2 H locs A2 h) (fun z => absurd er z)
