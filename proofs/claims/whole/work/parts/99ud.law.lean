/-! the law, its cases -/
set_option maxHeartbeats 4000000 in
set_option maxRecDepth 100000 in
theorem lwc_image {p : Program} {l : Launch} {e : Env} {s : State} {m : MethodId} {below : List Frame} {meth : Method} {c : Code} {Q : State → Prop} {E : uE} {S : uS} {b L : Nat} {xs : Nat → Int32} (C : lC E S b L xs p s m c) (i : Nat) (hi : i + 7 ≤ L) {M : uM} (A : rAll M) {H : Heap} {locs : List Loc} {ls : Array Slot} (h : uH E M s H locs) (hl : lv_has ls 4 [(3, .int (nI i)), (0, .ref b), (1, .ref (E.2.1 0)), (2, .ref (E.2.1 251))])
    (kk : ∀ (M' : uM) (H : Heap) (locs : List Loc), rAll M' → uH E M' s H locs → W p l e room_1 s m #[Value.ref b] below meth c H locs 263 4733 Q (F0 m 1284 ls [])) : W p l e room_1 s m #[Value.ref b] below meth c H locs 263 4733 Q (F0 m 908 ls []) := by
  have hx := C.1.1.1
  have hb := C.1.1.2.1
  have hown := C.1.1.2.2.2.1
  have hts := C.1.1.2.2.2.2
  have hI := C.1.2.2.2
  obtain ⟨Q1, hM1, K1⟩ := z6_image l E hI M A 
  refine lv_aload_n hx hb dL_law_908 rfl (lv_at hl 2 rfl) ?_
  refine lr_call C h (k := 0) (As := []) (rest := []) hM1 (cwV 0 hts gL_law_X6_image rfl rfl rfl (by decide +kernel) ⟨Nat.le_of_ble_eq_true rfl, Nat.le_of_ble_eq_true rfl⟩) (by decide) (uc_0 E _) (T := TX6) (N := 6) rfl rfl hl.1 rfl (Nat.le_of_ble_eq_true rfl) dL_law_909 (fun r1 M1 H locs hw1 h => ?_)
  obtain ⟨Q2, hM2, K2⟩ := K1 r1 M1 hw1
  refine lv_aload_n hx hb dL_law_912 rfl (lv_at hl 3 rfl) ?_
  refine lr_call C h (k := 251) (As := []) (rest := [.int r1]) hM2 (cwV 0 hts gL_law_X7_image rfl rfl rfl (by decide +kernel) ⟨Nat.le_of_ble_eq_true rfl, Nat.le_of_ble_eq_true rfl⟩) (by decide) (uc_251 E _) (T := TX7) (N := 17) rfl rfl hl.1 rfl (Nat.le_of_ble_eq_true rfl) dL_law_913 (fun r2 M2 H locs hw2 h => ?_)
  obtain ⟨er, A2⟩ := K2 r2 M2 hw2
  exact lv_icmp_eq (tgt := 1284) hx hb dL_law_916 (by decide) (fun _ => kk M2 H locs A2 h) (fun z => absurd er z)
set_option maxHeartbeats 4000000 in
set_option maxRecDepth 100000 in
theorem lwc_restore {p : Program} {l : Launch} {e : Env} {s : State} {m : MethodId} {below : List Frame} {meth : Method} {c : Code} {Q : State → Prop} {E : uE} {S : uS} {b L : Nat} {xs : Nat → Int32} (C : lC E S b L xs p s m c) (i : Nat) (hi : i + 7 ≤ L) {M : uM} (A : rAll M) {H : Heap} {locs : List Loc} {ls : Array Slot} (h : uH E M s H locs) (hl : lv_has ls 4 [(3, .int (nI i)), (0, .ref b), (1, .ref (E.2.1 0)), (2, .ref (E.2.1 251))])
    (kk : ∀ (M' : uM) (H : Heap) (locs : List Loc), rAll M' → uH E M' s H locs → W p l e room_1 s m #[Value.ref b] below meth c H locs 263 4733 Q (F0 m 1284 ls [])) : W p l e room_1 s m #[Value.ref b] below meth c H locs 263 4733 Q (F0 m 921 ls []) := by
  have hx := C.1.1.1
  have hb := C.1.1.2.1
  have hown := C.1.1.2.2.2.1
  have hts := C.1.1.2.2.2.2
  have hI := C.1.2.2.2
  obtain ⟨Q1, hM1, K1⟩ := z6_restore l E hI M A 
  refine lv_aload_n hx hb dL_law_921 rfl (lv_at hl 2 rfl) ?_
  refine lr_call C h (k := 0) (As := []) (rest := []) hM1 (cwV 0 hts gL_law_X6_restore rfl rfl rfl (by decide +kernel) ⟨Nat.le_of_ble_eq_true rfl, Nat.le_of_ble_eq_true rfl⟩) (by decide) (uc_0 E _) (T := TX6) (N := 6) rfl rfl hl.1 rfl (Nat.le_of_ble_eq_true rfl) dL_law_922 (fun r1 M1 H locs hw1 h => ?_)
  obtain ⟨Q2, hM2, K2⟩ := K1 r1 M1 hw1
  refine lv_aload_n hx hb dL_law_925 rfl (lv_at hl 3 rfl) ?_
  refine lr_call C h (k := 251) (As := []) (rest := [.int r1]) hM2 (cwV 0 hts gL_law_X7_restore rfl rfl rfl (by decide +kernel) ⟨Nat.le_of_ble_eq_true rfl, Nat.le_of_ble_eq_true rfl⟩) (by decide) (uc_251 E _) (T := TX7) (N := 17) rfl rfl hl.1 rfl (Nat.le_of_ble_eq_true rfl) dL_law_926 (fun r2 M2 H locs hw2 h => ?_)
  obtain ⟨er, A2⟩ := K2 r2 M2 hw2
  exact lv_icmp_eq (tgt := 1284) hx hb dL_law_929 (by decide) (fun _ => kk M2 H locs A2 h) (fun z => absurd er z)
set_option maxHeartbeats 4000000 in
set_option maxRecDepth 100000 in
theorem lwc_who {p : Program} {l : Launch} {e : Env} {s : State} {m : MethodId} {below : List Frame} {meth : Method} {c : Code} {Q : State → Prop} {E : uE} {S : uS} {b L : Nat} {xs : Nat → Int32} (C : lC E S b L xs p s m c) (i : Nat) (hi : i + 7 ≤ L) {M : uM} (A : rAll M) {H : Heap} {locs : List Loc} {ls : Array Slot} (h : uH E M s H locs) (hl : lv_has ls 4 [(3, .int (nI i)), (0, .ref b), (1, .ref (E.2.1 0)), (2, .ref (E.2.1 251))])
    (kk : ∀ (M' : uM) (H : Heap) (locs : List Loc), rAll M' → uH E M' s H locs → W p l e room_1 s m #[Value.ref b] below meth c H locs 263 4733 Q (F0 m 1284 ls [])) : W p l e room_1 s m #[Value.ref b] below meth c H locs 263 4733 Q (F0 m 934 ls []) := by
  have hx := C.1.1.1
  have hb := C.1.1.2.1
  have hown := C.1.1.2.2.2.1
  have hts := C.1.1.2.2.2.2
  have hI := C.1.2.2.2
  obtain ⟨Q1, hM1, K1⟩ := z6_who l E hI M A ((xs (i + 1))) ((xs (i + 2))) ((xs (i + 3))) ((xs (i + 4))) ((xs (i + 5)))
  refine lv_aload_n hx hb dL_law_934 rfl (lv_at hl 2 rfl) ?_
  refine lv_aload_n hx hb dL_law_935 rfl (lv_at hl 1 rfl) ?_
  refine lv_iload_n hx hb dL_law_936 rfl (lv_at hl 0 rfl) ?_
  refine lv_iconst (v := 1) hx hb dL_law_937 (by decide) ?_
  refine lv_iadd hx hb dL_law_938 ?_
  refine lr_sld C h (i + 1) (by omega) (nI_add i 1) dL_law_939 ?_
  refine lv_aload_n hx hb dL_law_940 rfl (lv_at hl 1 rfl) ?_
  refine lv_iload_n hx hb dL_law_941 rfl (lv_at hl 0 rfl) ?_
  refine lv_iconst (v := 2) hx hb dL_law_942 (by decide) ?_
  refine lv_iadd hx hb dL_law_943 ?_
  refine lr_sld C h (i + 2) (by omega) (nI_add i 2) dL_law_944 ?_
  refine lv_aload_n hx hb dL_law_945 rfl (lv_at hl 1 rfl) ?_
  refine lv_iload_n hx hb dL_law_946 rfl (lv_at hl 0 rfl) ?_
  refine lv_iconst (v := 3) hx hb dL_law_947 (by decide) ?_
  refine lv_iadd hx hb dL_law_948 ?_
  refine lr_sld C h (i + 3) (by omega) (nI_add i 3) dL_law_949 ?_
  refine lv_aload_n hx hb dL_law_950 rfl (lv_at hl 1 rfl) ?_
  refine lv_iload_n hx hb dL_law_951 rfl (lv_at hl 0 rfl) ?_
  refine lv_iconst (v := 4) hx hb dL_law_952 (by decide) ?_
  refine lv_iadd hx hb dL_law_953 ?_
  refine lr_sld C h (i + 4) (by omega) (nI_add i 4) dL_law_954 ?_
  refine lv_aload_n hx hb dL_law_955 rfl (lv_at hl 1 rfl) ?_
  refine lv_iload_n hx hb dL_law_956 rfl (lv_at hl 0 rfl) ?_
  refine lv_iconst (v := 5) hx hb dL_law_957 (by decide) ?_
  refine lv_iadd hx hb dL_law_958 ?_
  refine lr_sld C h (i + 5) (by omega) (nI_add i 5) dL_law_959 ?_
  refine lr_call C h (k := 0) (As := [.int (xs (i + 1)), .int (xs (i + 2)), .int (xs (i + 3)), .int (xs (i + 4)), .int (xs (i + 5))]) (rest := []) hM1 (cwV 5 hts gL_law_X6_who rfl rfl rfl (by decide +kernel) ⟨Nat.le_of_ble_eq_true rfl, Nat.le_of_ble_eq_true rfl⟩) (by decide) (uc_0 E _) (T := TX6) (N := 6) rfl rfl hl.1 rfl (Nat.le_of_ble_eq_true rfl) dL_law_960 (fun r1 M1 H locs hw1 h => ?_)
  obtain ⟨Q2, hM2, K2⟩ := K1 r1 M1 hw1
  refine lv_aload_n hx hb dL_law_963 rfl (lv_at hl 3 rfl) ?_
  refine lv_aload_n hx hb dL_law_964 rfl (lv_at hl 1 rfl) ?_
  refine lv_iload_n hx hb dL_law_965 rfl (lv_at hl 0 rfl) ?_
  refine lv_iconst (v := 1) hx hb dL_law_966 (by decide) ?_
  refine lv_iadd hx hb dL_law_967 ?_
  refine lr_sld C h (i + 1) (by omega) (nI_add i 1) dL_law_968 ?_
  refine lv_aload_n hx hb dL_law_969 rfl (lv_at hl 1 rfl) ?_
  refine lv_iload_n hx hb dL_law_970 rfl (lv_at hl 0 rfl) ?_
  refine lv_iconst (v := 2) hx hb dL_law_971 (by decide) ?_
  refine lv_iadd hx hb dL_law_972 ?_
  refine lr_sld C h (i + 2) (by omega) (nI_add i 2) dL_law_973 ?_
  refine lv_aload_n hx hb dL_law_974 rfl (lv_at hl 1 rfl) ?_
  refine lv_iload_n hx hb dL_law_975 rfl (lv_at hl 0 rfl) ?_
  refine lv_iconst (v := 3) hx hb dL_law_976 (by decide) ?_
  refine lv_iadd hx hb dL_law_977 ?_
  refine lr_sld C h (i + 3) (by omega) (nI_add i 3) dL_law_978 ?_
  refine lv_aload_n hx hb dL_law_979 rfl (lv_at hl 1 rfl) ?_
  refine lv_iload_n hx hb dL_law_980 rfl (lv_at hl 0 rfl) ?_
  refine lv_iconst (v := 4) hx hb dL_law_981 (by decide) ?_
  refine lv_iadd hx hb dL_law_982 ?_
  refine lr_sld C h (i + 4) (by omega) (nI_add i 4) dL_law_983 ?_
  refine lv_aload_n hx hb dL_law_984 rfl (lv_at hl 1 rfl) ?_
  refine lv_iload_n hx hb dL_law_985 rfl (lv_at hl 0 rfl) ?_
  refine lv_iconst (v := 5) hx hb dL_law_986 (by decide) ?_
  refine lv_iadd hx hb dL_law_987 ?_
  refine lr_sld C h (i + 5) (by omega) (nI_add i 5) dL_law_988 ?_
  refine lr_call C h (k := 251) (As := [.int (xs (i + 1)), .int (xs (i + 2)), .int (xs (i + 3)), .int (xs (i + 4)), .int (xs (i + 5))]) (rest := [.int r1]) hM2 (cwV 5 hts gL_law_X7_who rfl rfl rfl (by decide +kernel) ⟨Nat.le_of_ble_eq_true rfl, Nat.le_of_ble_eq_true rfl⟩) (by decide) (uc_251 E _) (T := TX7) (N := 17) rfl rfl hl.1 rfl (Nat.le_of_ble_eq_true rfl) dL_law_989 (fun r2 M2 H locs hw2 h => ?_)
  obtain ⟨er, A2⟩ := K2 r2 M2 hw2
  exact lv_icmp_eq (tgt := 1284) hx hb dL_law_992 (by decide) (fun _ => kk M2 H locs A2 h) (fun z => absurd er z)
set_option maxHeartbeats 4000000 in
set_option maxRecDepth 100000 in
theorem lwc_film {p : Program} {l : Launch} {e : Env} {s : State} {m : MethodId} {below : List Frame} {meth : Method} {c : Code} {Q : State → Prop} {E : uE} {S : uS} {b L : Nat} {xs : Nat → Int32} (C : lC E S b L xs p s m c) (i : Nat) (hi : i + 7 ≤ L) {M : uM} (A : rAll M) {H : Heap} {locs : List Loc} {ls : Array Slot} (h : uH E M s H locs) (hl : lv_has ls 4 [(3, .int (nI i)), (0, .ref b), (1, .ref (E.2.1 0)), (2, .ref (E.2.1 251))])
    (kk : ∀ (M' : uM) (H : Heap) (locs : List Loc), rAll M' → uH E M' s H locs → W p l e room_1 s m #[Value.ref b] below meth c H locs 263 4733 Q (F0 m 1284 ls [])) : W p l e room_1 s m #[Value.ref b] below meth c H locs 263 4733 Q (F0 m 997 ls []) := by
  have hx := C.1.1.1
  have hb := C.1.1.2.1
  have hown := C.1.1.2.2.2.1
  have hts := C.1.1.2.2.2.2
  have hI := C.1.2.2.2
  obtain ⟨Q1, hM1, K1⟩ := z6_film l E hI M A ((xs (i + 1))) ((xs (i + 2))) ((xs (i + 3))) ((xs (i + 4))) ((xs (i + 5))) ((xs (i + 6)))
  refine lv_aload_n hx hb dL_law_997 rfl (lv_at hl 2 rfl) ?_
  refine lv_aload_n hx hb dL_law_998 rfl (lv_at hl 1 rfl) ?_
  refine lv_iload_n hx hb dL_law_999 rfl (lv_at hl 0 rfl) ?_
  refine lv_iconst (v := 1) hx hb dL_law_1000 (by decide) ?_
  refine lv_iadd hx hb dL_law_1001 ?_
  refine lr_sld C h (i + 1) (by omega) (nI_add i 1) dL_law_1002 ?_
  refine lv_aload_n hx hb dL_law_1003 rfl (lv_at hl 1 rfl) ?_
  refine lv_iload_n hx hb dL_law_1004 rfl (lv_at hl 0 rfl) ?_
  refine lv_iconst (v := 2) hx hb dL_law_1005 (by decide) ?_
  refine lv_iadd hx hb dL_law_1006 ?_
  refine lr_sld C h (i + 2) (by omega) (nI_add i 2) dL_law_1007 ?_
  refine lv_aload_n hx hb dL_law_1008 rfl (lv_at hl 1 rfl) ?_
  refine lv_iload_n hx hb dL_law_1009 rfl (lv_at hl 0 rfl) ?_
  refine lv_iconst (v := 3) hx hb dL_law_1010 (by decide) ?_
  refine lv_iadd hx hb dL_law_1011 ?_
  refine lr_sld C h (i + 3) (by omega) (nI_add i 3) dL_law_1012 ?_
  refine lv_aload_n hx hb dL_law_1013 rfl (lv_at hl 1 rfl) ?_
  refine lv_iload_n hx hb dL_law_1014 rfl (lv_at hl 0 rfl) ?_
  refine lv_iconst (v := 4) hx hb dL_law_1015 (by decide) ?_
  refine lv_iadd hx hb dL_law_1016 ?_
  refine lr_sld C h (i + 4) (by omega) (nI_add i 4) dL_law_1017 ?_
  refine lv_aload_n hx hb dL_law_1018 rfl (lv_at hl 1 rfl) ?_
  refine lv_iload_n hx hb dL_law_1019 rfl (lv_at hl 0 rfl) ?_
  refine lv_iconst (v := 5) hx hb dL_law_1020 (by decide) ?_
  refine lv_iadd hx hb dL_law_1021 ?_
  refine lr_sld C h (i + 5) (by omega) (nI_add i 5) dL_law_1022 ?_
  refine lv_aload_n hx hb dL_law_1023 rfl (lv_at hl 1 rfl) ?_
  refine lv_iload_n hx hb dL_law_1024 rfl (lv_at hl 0 rfl) ?_
  refine lv_bipush (v := 6) hx hb dL_law_1025 (by decide) ?_
  refine lv_iadd hx hb dL_law_1027 ?_
  refine lr_sld C h (i + 6) (by omega) (nI_add i 6) dL_law_1028 ?_
  refine lr_call C h (k := 0) (As := [.int (xs (i + 1)), .int (xs (i + 2)), .int (xs (i + 3)), .int (xs (i + 4)), .int (xs (i + 5)), .int (xs (i + 6))]) (rest := []) hM1 (cwV 6 hts gL_law_X6_film rfl rfl rfl (by decide +kernel) ⟨Nat.le_of_ble_eq_true rfl, Nat.le_of_ble_eq_true rfl⟩) (by decide) (uc_0 E _) (T := TX6) (N := 6) rfl rfl hl.1 rfl (Nat.le_of_ble_eq_true rfl) dL_law_1029 (fun r1 M1 H locs hw1 h => ?_)
  obtain ⟨Q2, hM2, K2⟩ := K1 r1 M1 hw1
  refine lv_aload_n hx hb dL_law_1032 rfl (lv_at hl 3 rfl) ?_
  refine lv_aload_n hx hb dL_law_1033 rfl (lv_at hl 1 rfl) ?_
  refine lv_iload_n hx hb dL_law_1034 rfl (lv_at hl 0 rfl) ?_
  refine lv_iconst (v := 1) hx hb dL_law_1035 (by decide) ?_
  refine lv_iadd hx hb dL_law_1036 ?_
  refine lr_sld C h (i + 1) (by omega) (nI_add i 1) dL_law_1037 ?_
  refine lv_aload_n hx hb dL_law_1038 rfl (lv_at hl 1 rfl) ?_
  refine lv_iload_n hx hb dL_law_1039 rfl (lv_at hl 0 rfl) ?_
  refine lv_iconst (v := 2) hx hb dL_law_1040 (by decide) ?_
  refine lv_iadd hx hb dL_law_1041 ?_
  refine lr_sld C h (i + 2) (by omega) (nI_add i 2) dL_law_1042 ?_
  refine lv_aload_n hx hb dL_law_1043 rfl (lv_at hl 1 rfl) ?_
  refine lv_iload_n hx hb dL_law_1044 rfl (lv_at hl 0 rfl) ?_
  refine lv_iconst (v := 3) hx hb dL_law_1045 (by decide) ?_
  refine lv_iadd hx hb dL_law_1046 ?_
  refine lr_sld C h (i + 3) (by omega) (nI_add i 3) dL_law_1047 ?_
  refine lv_aload_n hx hb dL_law_1048 rfl (lv_at hl 1 rfl) ?_
  refine lv_iload_n hx hb dL_law_1049 rfl (lv_at hl 0 rfl) ?_
  refine lv_iconst (v := 4) hx hb dL_law_1050 (by decide) ?_
  refine lv_iadd hx hb dL_law_1051 ?_
  refine lr_sld C h (i + 4) (by omega) (nI_add i 4) dL_law_1052 ?_
  refine lv_aload_n hx hb dL_law_1053 rfl (lv_at hl 1 rfl) ?_
  refine lv_iload_n hx hb dL_law_1054 rfl (lv_at hl 0 rfl) ?_
  refine lv_iconst (v := 5) hx hb dL_law_1055 (by decide) ?_
  refine lv_iadd hx hb dL_law_1056 ?_
  refine lr_sld C h (i + 5) (by omega) (nI_add i 5) dL_law_1057 ?_
  refine lv_aload_n hx hb dL_law_1058 rfl (lv_at hl 1 rfl) ?_
  refine lv_iload_n hx hb dL_law_1059 rfl (lv_at hl 0 rfl) ?_
  refine lv_bipush (v := 6) hx hb dL_law_1060 (by decide) ?_
  refine lv_iadd hx hb dL_law_1062 ?_
  refine lr_sld C h (i + 6) (by omega) (nI_add i 6) dL_law_1063 ?_
  refine lr_call C h (k := 251) (As := [.int (xs (i + 1)), .int (xs (i + 2)), .int (xs (i + 3)), .int (xs (i + 4)), .int (xs (i + 5)), .int (xs (i + 6))]) (rest := [.int r1]) hM2 (cwV 6 hts gL_law_X7_film rfl rfl rfl (by decide +kernel) ⟨Nat.le_of_ble_eq_true rfl, Nat.le_of_ble_eq_true rfl⟩) (by decide) (uc_251 E _) (T := TX7) (N := 17) rfl rfl hl.1 rfl (Nat.le_of_ble_eq_true rfl) dL_law_1064 (fun r2 M2 H locs hw2 h => ?_)
  obtain ⟨er, A2⟩ := K2 r2 M2 hw2
  exact lv_icmp_eq (tgt := 1284) hx hb dL_law_1067 (by decide) (fun _ => kk M2 H locs A2 h) (fun z => absurd er z)
set_option maxHeartbeats 4000000 in
set_option maxRecDepth 100000 in
theorem lwc_sheet {p : Program} {l : Launch} {e : Env} {s : State} {m : MethodId} {below : List Frame} {meth : Method} {c : Code} {Q : State → Prop} {E : uE} {S : uS} {b L : Nat} {xs : Nat → Int32} (C : lC E S b L xs p s m c) (i : Nat) (hi : i + 7 ≤ L) {M : uM} (A : rAll M) {H : Heap} {locs : List Loc} {ls : Array Slot} (h : uH E M s H locs) (hl : lv_has ls 4 [(3, .int (nI i)), (0, .ref b), (1, .ref (E.2.1 0)), (2, .ref (E.2.1 251))])
    (kk : ∀ (M' : uM) (H : Heap) (locs : List Loc), rAll M' → uH E M' s H locs → W p l e room_1 s m #[Value.ref b] below meth c H locs 263 4733 Q (F0 m 1284 ls [])) : W p l e room_1 s m #[Value.ref b] below meth c H locs 263 4733 Q (F0 m 1072 ls []) := by
  have hx := C.1.1.1
  have hb := C.1.1.2.1
  have hown := C.1.1.2.2.2.1
  have hts := C.1.1.2.2.2.2
  have hI := C.1.2.2.2
  obtain ⟨Q1, hM1, K1⟩ := z6_sheet l E hI M A ((xs (i + 1))) ((xs (i + 2))) ((xs (i + 3)))
  refine lv_aload_n hx hb dL_law_1072 rfl (lv_at hl 2 rfl) ?_
  refine lv_aload_n hx hb dL_law_1073 rfl (lv_at hl 1 rfl) ?_
  refine lv_iload_n hx hb dL_law_1074 rfl (lv_at hl 0 rfl) ?_
  refine lv_iconst (v := 1) hx hb dL_law_1075 (by decide) ?_
  refine lv_iadd hx hb dL_law_1076 ?_
  refine lr_sld C h (i + 1) (by omega) (nI_add i 1) dL_law_1077 ?_
  refine lv_aload_n hx hb dL_law_1078 rfl (lv_at hl 1 rfl) ?_
  refine lv_iload_n hx hb dL_law_1079 rfl (lv_at hl 0 rfl) ?_
  refine lv_iconst (v := 2) hx hb dL_law_1080 (by decide) ?_
  refine lv_iadd hx hb dL_law_1081 ?_
  refine lr_sld C h (i + 2) (by omega) (nI_add i 2) dL_law_1082 ?_
  refine lv_aload_n hx hb dL_law_1083 rfl (lv_at hl 1 rfl) ?_
  refine lv_iload_n hx hb dL_law_1084 rfl (lv_at hl 0 rfl) ?_
  refine lv_iconst (v := 3) hx hb dL_law_1085 (by decide) ?_
  refine lv_iadd hx hb dL_law_1086 ?_
  refine lr_sld C h (i + 3) (by omega) (nI_add i 3) dL_law_1087 ?_
  refine lr_call C h (k := 0) (As := [.int (xs (i + 1)), .int (xs (i + 2)), .int (xs (i + 3))]) (rest := []) hM1 (cwV 3 hts gL_law_X6_sheet rfl rfl rfl (by decide +kernel) ⟨Nat.le_of_ble_eq_true rfl, Nat.le_of_ble_eq_true rfl⟩) (by decide) (uc_0 E _) (T := TX6) (N := 6) rfl rfl hl.1 rfl (Nat.le_of_ble_eq_true rfl) dL_law_1088 (fun r1 M1 H locs hw1 h => ?_)
  obtain ⟨Q2, hM2, K2⟩ := K1 r1 M1 hw1
  refine lv_aload_n hx hb dL_law_1091 rfl (lv_at hl 3 rfl) ?_
  refine lv_aload_n hx hb dL_law_1092 rfl (lv_at hl 1 rfl) ?_
  refine lv_iload_n hx hb dL_law_1093 rfl (lv_at hl 0 rfl) ?_
  refine lv_iconst (v := 1) hx hb dL_law_1094 (by decide) ?_
  refine lv_iadd hx hb dL_law_1095 ?_
  refine lr_sld C h (i + 1) (by omega) (nI_add i 1) dL_law_1096 ?_
  refine lv_aload_n hx hb dL_law_1097 rfl (lv_at hl 1 rfl) ?_
  refine lv_iload_n hx hb dL_law_1098 rfl (lv_at hl 0 rfl) ?_
  refine lv_iconst (v := 2) hx hb dL_law_1099 (by decide) ?_
  refine lv_iadd hx hb dL_law_1100 ?_
  refine lr_sld C h (i + 2) (by omega) (nI_add i 2) dL_law_1101 ?_
  refine lv_aload_n hx hb dL_law_1102 rfl (lv_at hl 1 rfl) ?_
  refine lv_iload_n hx hb dL_law_1103 rfl (lv_at hl 0 rfl) ?_
  refine lv_iconst (v := 3) hx hb dL_law_1104 (by decide) ?_
  refine lv_iadd hx hb dL_law_1105 ?_
  refine lr_sld C h (i + 3) (by omega) (nI_add i 3) dL_law_1106 ?_
  refine lr_call C h (k := 251) (As := [.int (xs (i + 1)), .int (xs (i + 2)), .int (xs (i + 3))]) (rest := [.int r1]) hM2 (cwV 3 hts gL_law_X7_sheet rfl rfl rfl (by decide +kernel) ⟨Nat.le_of_ble_eq_true rfl, Nat.le_of_ble_eq_true rfl⟩) (by decide) (uc_251 E _) (T := TX7) (N := 17) rfl rfl hl.1 rfl (Nat.le_of_ble_eq_true rfl) dL_law_1107 (fun r2 M2 H locs hw2 h => ?_)
  obtain ⟨er, A2⟩ := K2 r2 M2 hw2
  exact lv_icmp_eq (tgt := 1284) hx hb dL_law_1110 (by decide) (fun _ => kk M2 H locs A2 h) (fun z => absurd er z)
set_option maxHeartbeats 4000000 in
set_option maxRecDepth 100000 in
theorem lwc_drop {p : Program} {l : Launch} {e : Env} {s : State} {m : MethodId} {below : List Frame} {meth : Method} {c : Code} {Q : State → Prop} {E : uE} {S : uS} {b L : Nat} {xs : Nat → Int32} (C : lC E S b L xs p s m c) (i : Nat) (hi : i + 7 ≤ L) {M : uM} (A : rAll M) {H : Heap} {locs : List Loc} {ls : Array Slot} (h : uH E M s H locs) (hl : lv_has ls 4 [(3, .int (nI i)), (0, .ref b), (1, .ref (E.2.1 0)), (2, .ref (E.2.1 251))])
    (kk : ∀ (M' : uM) (H : Heap) (locs : List Loc), rAll M' → uH E M' s H locs → W p l e room_1 s m #[Value.ref b] below meth c H locs 263 4733 Q (F0 m 1284 ls [])) : W p l e room_1 s m #[Value.ref b] below meth c H locs 263 4733 Q (F0 m 1115 ls []) := by
  have hx := C.1.1.1
  have hb := C.1.1.2.1
  have hown := C.1.1.2.2.2.1
  have hts := C.1.1.2.2.2.2
  have hI := C.1.2.2.2
  obtain ⟨Q1, hM1, K1⟩ := z6_drop l E hI M A ((xs (i + 1)))
  refine lv_aload_n hx hb dL_law_1115 rfl (lv_at hl 2 rfl) ?_
  refine lv_aload_n hx hb dL_law_1116 rfl (lv_at hl 1 rfl) ?_
  refine lv_iload_n hx hb dL_law_1117 rfl (lv_at hl 0 rfl) ?_
  refine lv_iconst (v := 1) hx hb dL_law_1118 (by decide) ?_
  refine lv_iadd hx hb dL_law_1119 ?_
  refine lr_sld C h (i + 1) (by omega) (nI_add i 1) dL_law_1120 ?_
  refine lr_call C h (k := 0) (As := [.int (xs (i + 1))]) (rest := []) hM1 (cwV 1 hts gL_law_X6_drop rfl rfl rfl (by decide +kernel) ⟨Nat.le_of_ble_eq_true rfl, Nat.le_of_ble_eq_true rfl⟩) (by decide) (uc_0 E _) (T := TX6) (N := 6) rfl rfl hl.1 rfl (Nat.le_of_ble_eq_true rfl) dL_law_1121 (fun r1 M1 H locs hw1 h => ?_)
  obtain ⟨Q2, hM2, K2⟩ := K1 r1 M1 hw1
  refine lv_aload_n hx hb dL_law_1124 rfl (lv_at hl 3 rfl) ?_
  refine lv_aload_n hx hb dL_law_1125 rfl (lv_at hl 1 rfl) ?_
  refine lv_iload_n hx hb dL_law_1126 rfl (lv_at hl 0 rfl) ?_
  refine lv_iconst (v := 1) hx hb dL_law_1127 (by decide) ?_
  refine lv_iadd hx hb dL_law_1128 ?_
  refine lr_sld C h (i + 1) (by omega) (nI_add i 1) dL_law_1129 ?_
  refine lr_call C h (k := 251) (As := [.int (xs (i + 1))]) (rest := [.int r1]) hM2 (cwV 1 hts gL_law_X7_drop rfl rfl rfl (by decide +kernel) ⟨Nat.le_of_ble_eq_true rfl, Nat.le_of_ble_eq_true rfl⟩) (by decide) (uc_251 E _) (T := TX7) (N := 17) rfl rfl hl.1 rfl (Nat.le_of_ble_eq_true rfl) dL_law_1130 (fun r2 M2 H locs hw2 h => ?_)
  obtain ⟨er, A2⟩ := K2 r2 M2 hw2
  exact lv_icmp_eq (tgt := 1284) hx hb dL_law_1133 (by decide) (fun _ => kk M2 H locs A2 h) (fun z => absurd er z)
set_option maxHeartbeats 4000000 in
set_option maxRecDepth 100000 in
theorem lwc_item {p : Program} {l : Launch} {e : Env} {s : State} {m : MethodId} {below : List Frame} {meth : Method} {c : Code} {Q : State → Prop} {E : uE} {S : uS} {b L : Nat} {xs : Nat → Int32} (C : lC E S b L xs p s m c) (i : Nat) (hi : i + 7 ≤ L) {M : uM} (A : rAll M) {H : Heap} {locs : List Loc} {ls : Array Slot} (h : uH E M s H locs) (hl : lv_has ls 4 [(3, .int (nI i)), (0, .ref b), (1, .ref (E.2.1 0)), (2, .ref (E.2.1 251))])
    (kk : ∀ (M' : uM) (H : Heap) (locs : List Loc), rAll M' → uH E M' s H locs → W p l e room_1 s m #[Value.ref b] below meth c H locs 263 4733 Q (F0 m 1284 ls [])) : W p l e room_1 s m #[Value.ref b] below meth c H locs 263 4733 Q (F0 m 1138 ls []) := by
  have hx := C.1.1.1
  have hb := C.1.1.2.1
  have hown := C.1.1.2.2.2.1
  have hts := C.1.1.2.2.2.2
  have hI := C.1.2.2.2
  obtain ⟨Q1, hM1, K1⟩ := z6_item l E hI M A ((xs (i + 1))) ((xs (i + 2))) ((xs (i + 3))) (((xs (i + 4)).toInt64 <<< ((32 : Int32).toInt64 &&& 63) ||| (xs (i + 5)).toInt64 &&& 4294967295))
  refine lv_aload_n hx hb dL_law_1138 rfl (lv_at hl 2 rfl) ?_
  refine lv_aload_n hx hb dL_law_1139 rfl (lv_at hl 1 rfl) ?_
  refine lv_iload_n hx hb dL_law_1140 rfl (lv_at hl 0 rfl) ?_
  refine lv_iconst (v := 1) hx hb dL_law_1141 (by decide) ?_
  refine lv_iadd hx hb dL_law_1142 ?_
  refine lr_sld C h (i + 1) (by omega) (nI_add i 1) dL_law_1143 ?_
  refine lv_aload_n hx hb dL_law_1144 rfl (lv_at hl 1 rfl) ?_
  refine lv_iload_n hx hb dL_law_1145 rfl (lv_at hl 0 rfl) ?_
  refine lv_iconst (v := 2) hx hb dL_law_1146 (by decide) ?_
  refine lv_iadd hx hb dL_law_1147 ?_
  refine lr_sld C h (i + 2) (by omega) (nI_add i 2) dL_law_1148 ?_
  refine lv_aload_n hx hb dL_law_1149 rfl (lv_at hl 1 rfl) ?_
  refine lv_iload_n hx hb dL_law_1150 rfl (lv_at hl 0 rfl) ?_
  refine lv_iconst (v := 3) hx hb dL_law_1151 (by decide) ?_
  refine lv_iadd hx hb dL_law_1152 ?_
  refine lr_sld C h (i + 3) (by omega) (nI_add i 3) dL_law_1153 ?_
  refine lv_aload_n hx hb dL_law_1154 rfl (lv_at hl 1 rfl) ?_
  refine lv_iload_n hx hb dL_law_1155 rfl (lv_at hl 0 rfl) ?_
  refine lv_iconst (v := 4) hx hb dL_law_1156 (by decide) ?_
  refine lv_iadd hx hb dL_law_1157 ?_
  refine lr_sld C h (i + 4) (by omega) (nI_add i 4) dL_law_1158 ?_
  refine lv_i2l hx hb dL_law_1159 rfl ?_
  refine lv_bipush (v := 32) hx hb dL_law_1160 (by decide) ?_
  refine lv_lshl hx hb dL_law_1162 rfl ?_
  refine lv_aload_n hx hb dL_law_1163 rfl (lv_at hl 1 rfl) ?_
  refine lv_iload_n hx hb dL_law_1164 rfl (lv_at hl 0 rfl) ?_
  refine lv_iconst (v := 5) hx hb dL_law_1165 (by decide) ?_
  refine lv_iadd hx hb dL_law_1166 ?_
  refine lr_sld C h (i + 5) (by omega) (nI_add i 5) dL_law_1167 ?_
  refine lv_i2l hx hb dL_law_1168 rfl ?_
  refine lv_ldc2 (v := 4294967295) hx hb hown (hts (.constantLong RL 140 4294967295) (by decide +kernel)) dL_law_1169 ?_
  refine lv_land hx hb dL_law_1172 ?_
  refine lv_lor hx hb dL_law_1173 ?_
  refine lr_call C h (k := 0) (As := [.int (xs (i + 1)), .int (xs (i + 2)), .int (xs (i + 3)), .long ((xs (i + 4)).toInt64 <<< ((32 : Int32).toInt64 &&& 63) ||| (xs (i + 5)).toInt64 &&& 4294967295)]) (rest := []) hM1 (cwV 4 hts gL_law_X6_item rfl rfl rfl (by decide +kernel) ⟨Nat.le_of_ble_eq_true rfl, Nat.le_of_ble_eq_true rfl⟩) (by decide) (uc_0 E _) (T := TX6) (N := 6) rfl rfl hl.1 rfl (Nat.le_of_ble_eq_true rfl) dL_law_1174 (fun r1 M1 H locs hw1 h => ?_)
  obtain ⟨Q2, hM2, K2⟩ := K1 r1 M1 hw1
  refine lv_aload_n hx hb dL_law_1177 rfl (lv_at hl 3 rfl) ?_
  refine lv_aload_n hx hb dL_law_1178 rfl (lv_at hl 1 rfl) ?_
  refine lv_iload_n hx hb dL_law_1179 rfl (lv_at hl 0 rfl) ?_
  refine lv_iconst (v := 1) hx hb dL_law_1180 (by decide) ?_
  refine lv_iadd hx hb dL_law_1181 ?_
  refine lr_sld C h (i + 1) (by omega) (nI_add i 1) dL_law_1182 ?_
  refine lv_aload_n hx hb dL_law_1183 rfl (lv_at hl 1 rfl) ?_
  refine lv_iload_n hx hb dL_law_1184 rfl (lv_at hl 0 rfl) ?_
  refine lv_iconst (v := 2) hx hb dL_law_1185 (by decide) ?_
  refine lv_iadd hx hb dL_law_1186 ?_
  refine lr_sld C h (i + 2) (by omega) (nI_add i 2) dL_law_1187 ?_
  refine lv_aload_n hx hb dL_law_1188 rfl (lv_at hl 1 rfl) ?_
  refine lv_iload_n hx hb dL_law_1189 rfl (lv_at hl 0 rfl) ?_
  refine lv_iconst (v := 3) hx hb dL_law_1190 (by decide) ?_
  refine lv_iadd hx hb dL_law_1191 ?_
  refine lr_sld C h (i + 3) (by omega) (nI_add i 3) dL_law_1192 ?_
  refine lv_aload_n hx hb dL_law_1193 rfl (lv_at hl 1 rfl) ?_
  refine lv_iload_n hx hb dL_law_1194 rfl (lv_at hl 0 rfl) ?_
  refine lv_iconst (v := 4) hx hb dL_law_1195 (by decide) ?_
  refine lv_iadd hx hb dL_law_1196 ?_
  refine lr_sld C h (i + 4) (by omega) (nI_add i 4) dL_law_1197 ?_
  refine lv_i2l hx hb dL_law_1198 rfl ?_
  refine lv_bipush (v := 32) hx hb dL_law_1199 (by decide) ?_
  refine lv_lshl hx hb dL_law_1201 rfl ?_
  refine lv_aload_n hx hb dL_law_1202 rfl (lv_at hl 1 rfl) ?_
  refine lv_iload_n hx hb dL_law_1203 rfl (lv_at hl 0 rfl) ?_
  refine lv_iconst (v := 5) hx hb dL_law_1204 (by decide) ?_
  refine lv_iadd hx hb dL_law_1205 ?_
  refine lr_sld C h (i + 5) (by omega) (nI_add i 5) dL_law_1206 ?_
  refine lv_i2l hx hb dL_law_1207 rfl ?_
  refine lv_ldc2 (v := 4294967295) hx hb hown (hts (.constantLong RL 140 4294967295) (by decide +kernel)) dL_law_1208 ?_
  refine lv_land hx hb dL_law_1211 ?_
  refine lv_lor hx hb dL_law_1212 ?_
  refine lr_call C h (k := 251) (As := [.int (xs (i + 1)), .int (xs (i + 2)), .int (xs (i + 3)), .long ((xs (i + 4)).toInt64 <<< ((32 : Int32).toInt64 &&& 63) ||| (xs (i + 5)).toInt64 &&& 4294967295)]) (rest := [.int r1]) hM2 (cwV 4 hts gL_law_X7_item rfl rfl rfl (by decide +kernel) ⟨Nat.le_of_ble_eq_true rfl, Nat.le_of_ble_eq_true rfl⟩) (by decide) (uc_251 E _) (T := TX7) (N := 17) rfl rfl hl.1 rfl (Nat.le_of_ble_eq_true rfl) dL_law_1213 (fun r2 M2 H locs hw2 h => ?_)
  obtain ⟨er, A2⟩ := K2 r2 M2 hw2
  exact lv_icmp_eq (tgt := 1284) hx hb dL_law_1216 (by decide) (fun _ => kk M2 H locs A2 h) (fun z => absurd er z)
set_option maxHeartbeats 4000000 in
set_option maxRecDepth 100000 in
theorem lwc_copy {p : Program} {l : Launch} {e : Env} {s : State} {m : MethodId} {below : List Frame} {meth : Method} {c : Code} {Q : State → Prop} {E : uE} {S : uS} {b L : Nat} {xs : Nat → Int32} (C : lC E S b L xs p s m c) (i : Nat) (hi : i + 7 ≤ L) {M : uM} (A : rAll M) {H : Heap} {locs : List Loc} {ls : Array Slot} (h : uH E M s H locs) (hl : lv_has ls 4 [(3, .int (nI i)), (0, .ref b), (1, .ref (E.2.1 0)), (2, .ref (E.2.1 251))])
    (kk : ∀ (M' : uM) (H : Heap) (locs : List Loc), rAll M' → uH E M' s H locs → W p l e room_1 s m #[Value.ref b] below meth c H locs 263 4733 Q (F0 m 1284 ls [])) : W p l e room_1 s m #[Value.ref b] below meth c H locs 263 4733 Q (F0 m 1221 ls []) := by
  have hx := C.1.1.1
  have hb := C.1.1.2.1
  have hown := C.1.1.2.2.2.1
  have hts := C.1.1.2.2.2.2
  have hI := C.1.2.2.2
  obtain ⟨Q1, hM1, K1⟩ := z6_copy l E hI M A ((xs (i + 1))) ((xs (i + 2))) ((xs (i + 3))) ((xs (i + 4))) ((xs (i + 5)))
  refine lv_aload_n hx hb dL_law_1221 rfl (lv_at hl 2 rfl) ?_
  refine lv_aload_n hx hb dL_law_1222 rfl (lv_at hl 1 rfl) ?_
  refine lv_iload_n hx hb dL_law_1223 rfl (lv_at hl 0 rfl) ?_
  refine lv_iconst (v := 1) hx hb dL_law_1224 (by decide) ?_
  refine lv_iadd hx hb dL_law_1225 ?_
  refine lr_sld C h (i + 1) (by omega) (nI_add i 1) dL_law_1226 ?_
  refine lv_aload_n hx hb dL_law_1227 rfl (lv_at hl 1 rfl) ?_
  refine lv_iload_n hx hb dL_law_1228 rfl (lv_at hl 0 rfl) ?_
  refine lv_iconst (v := 2) hx hb dL_law_1229 (by decide) ?_
  refine lv_iadd hx hb dL_law_1230 ?_
  refine lr_sld C h (i + 2) (by omega) (nI_add i 2) dL_law_1231 ?_
  refine lv_aload_n hx hb dL_law_1232 rfl (lv_at hl 1 rfl) ?_
  refine lv_iload_n hx hb dL_law_1233 rfl (lv_at hl 0 rfl) ?_
  refine lv_iconst (v := 3) hx hb dL_law_1234 (by decide) ?_
  refine lv_iadd hx hb dL_law_1235 ?_
  refine lr_sld C h (i + 3) (by omega) (nI_add i 3) dL_law_1236 ?_
  refine lv_aload_n hx hb dL_law_1237 rfl (lv_at hl 1 rfl) ?_
  refine lv_iload_n hx hb dL_law_1238 rfl (lv_at hl 0 rfl) ?_
  refine lv_iconst (v := 4) hx hb dL_law_1239 (by decide) ?_
  refine lv_iadd hx hb dL_law_1240 ?_
  refine lr_sld C h (i + 4) (by omega) (nI_add i 4) dL_law_1241 ?_
  refine lv_aload_n hx hb dL_law_1242 rfl (lv_at hl 1 rfl) ?_
  refine lv_iload_n hx hb dL_law_1243 rfl (lv_at hl 0 rfl) ?_
  refine lv_iconst (v := 5) hx hb dL_law_1244 (by decide) ?_
  refine lv_iadd hx hb dL_law_1245 ?_
  refine lr_sld C h (i + 5) (by omega) (nI_add i 5) dL_law_1246 ?_
  refine lr_call C h (k := 0) (As := [.int (xs (i + 1)), .int (xs (i + 2)), .int (xs (i + 3)), .int (xs (i + 4)), .int (xs (i + 5))]) (rest := []) hM1 (cwV 5 hts gL_law_X6_copy rfl rfl rfl (by decide +kernel) ⟨Nat.le_of_ble_eq_true rfl, Nat.le_of_ble_eq_true rfl⟩) (by decide) (uc_0 E _) (T := TX6) (N := 6) rfl rfl hl.1 rfl (Nat.le_of_ble_eq_true rfl) dL_law_1247 (fun r1 M1 H locs hw1 h => ?_)
  obtain ⟨Q2, hM2, K2⟩ := K1 r1 M1 hw1
  refine lv_aload_n hx hb dL_law_1250 rfl (lv_at hl 3 rfl) ?_
  refine lv_aload_n hx hb dL_law_1251 rfl (lv_at hl 1 rfl) ?_
  refine lv_iload_n hx hb dL_law_1252 rfl (lv_at hl 0 rfl) ?_
  refine lv_iconst (v := 1) hx hb dL_law_1253 (by decide) ?_
  refine lv_iadd hx hb dL_law_1254 ?_
  refine lr_sld C h (i + 1) (by omega) (nI_add i 1) dL_law_1255 ?_
  refine lv_aload_n hx hb dL_law_1256 rfl (lv_at hl 1 rfl) ?_
  refine lv_iload_n hx hb dL_law_1257 rfl (lv_at hl 0 rfl) ?_
  refine lv_iconst (v := 2) hx hb dL_law_1258 (by decide) ?_
  refine lv_iadd hx hb dL_law_1259 ?_
  refine lr_sld C h (i + 2) (by omega) (nI_add i 2) dL_law_1260 ?_
  refine lv_aload_n hx hb dL_law_1261 rfl (lv_at hl 1 rfl) ?_
  refine lv_iload_n hx hb dL_law_1262 rfl (lv_at hl 0 rfl) ?_
  refine lv_iconst (v := 3) hx hb dL_law_1263 (by decide) ?_
  refine lv_iadd hx hb dL_law_1264 ?_
  refine lr_sld C h (i + 3) (by omega) (nI_add i 3) dL_law_1265 ?_
  refine lv_aload_n hx hb dL_law_1266 rfl (lv_at hl 1 rfl) ?_
  refine lv_iload_n hx hb dL_law_1267 rfl (lv_at hl 0 rfl) ?_
  refine lv_iconst (v := 4) hx hb dL_law_1268 (by decide) ?_
  refine lv_iadd hx hb dL_law_1269 ?_
  refine lr_sld C h (i + 4) (by omega) (nI_add i 4) dL_law_1270 ?_
  refine lv_aload_n hx hb dL_law_1271 rfl (lv_at hl 1 rfl) ?_
  refine lv_iload_n hx hb dL_law_1272 rfl (lv_at hl 0 rfl) ?_
  refine lv_iconst (v := 5) hx hb dL_law_1273 (by decide) ?_
  refine lv_iadd hx hb dL_law_1274 ?_
  refine lr_sld C h (i + 5) (by omega) (nI_add i 5) dL_law_1275 ?_
  refine lr_call C h (k := 251) (As := [.int (xs (i + 1)), .int (xs (i + 2)), .int (xs (i + 3)), .int (xs (i + 4)), .int (xs (i + 5))]) (rest := [.int r1]) hM2 (cwV 5 hts gL_law_X7_copy rfl rfl rfl (by decide +kernel) ⟨Nat.le_of_ble_eq_true rfl, Nat.le_of_ble_eq_true rfl⟩) (by decide) (uc_251 E _) (T := TX7) (N := 17) rfl rfl hl.1 rfl (Nat.le_of_ble_eq_true rfl) dL_law_1276 (fun r2 M2 H locs hw2 h => ?_)
  obtain ⟨er, A2⟩ := K2 r2 M2 hw2
  exact lv_icmp_eq (tgt := 1284) hx hb dL_law_1279 (by decide) (fun _ => kk M2 H locs A2 h) (fun z => absurd er z)
