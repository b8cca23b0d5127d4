/-! the law, its cases -/
set_option maxHeartbeats 4000000 in
set_option maxRecDepth 100000 in
theorem lwc_speaker {p : Program} {l : Launch} {e : Env} {s : State} {m : MethodId} {below : List Frame} {meth : Method} {c : Code} {Q : State → Prop} {E : uE} {S : uS} {b L : Nat} {xs : Nat → Int32} (C : lC E S b L xs p s m c) (i : Nat) (hi : i + 7 ≤ L) {M : uM} (A : rAll M) {H : Heap} {locs : List Loc} {ls : Array Slot} (h : uH E M s H locs) (hl : lv_has ls 4 [(3, .int (nI i)), (0, .ref b), (1, .ref (E.2.1 0)), (2, .ref (E.2.1 251))])
    (kk : ∀ (M' : uM) (H : Heap) (locs : List Loc), rAll M' → uH E M' s H locs → W p l e room_1 s m #[Value.ref b] below meth c H locs 263 4733 Q (F0 m 1284 ls [])) : W p l e room_1 s m #[Value.ref b] below meth c H locs 263 4733 Q (F0 m 176 ls []) := by
  have hx := C.1.1.1
  have hb := C.1.1.2.1
  have hown := C.1.1.2.2.2.1
  have hts := C.1.1.2.2.2.2
  have hI := C.1.2.2.2
  obtain ⟨Q1, hM1, K1⟩ := z6_speaker l E hI M A ((xs (i + 1))) ((xs (i + 2))) ((xs (i + 3)))
  refine lv_aload_n hx hb dL_law_176 rfl (lv_at hl 2 rfl) ?_
  refine lv_aload_n hx hb dL_law_177 rfl (lv_at hl 1 rfl) ?_
  refine lv_iload_n hx hb dL_law_178 rfl (lv_at hl 0 rfl) ?_
  refine lv_iconst (v := 1) hx hb dL_law_179 (by decide) ?_
  refine lv_iadd hx hb dL_law_180 ?_
  refine lr_sld C h (i + 1) (by omega) (nI_add i 1) dL_law_181 ?_
  refine lv_aload_n hx hb dL_law_182 rfl (lv_at hl 1 rfl) ?_
  refine lv_iload_n hx hb dL_law_183 rfl (lv_at hl 0 rfl) ?_
  refine lv_iconst (v := 2) hx hb dL_law_184 (by decide) ?_
  refine lv_iadd hx hb dL_law_185 ?_
  refine lr_sld C h (i + 2) (by omega) (nI_add i 2) dL_law_186 ?_
  refine lv_aload_n hx hb dL_law_187 rfl (lv_at hl 1 rfl) ?_
  refine lv_iload_n hx hb dL_law_188 rfl (lv_at hl 0 rfl) ?_
  refine lv_iconst (v := 3) hx hb dL_law_189 (by decide) ?_
  refine lv_iadd hx hb dL_law_190 ?_
  refine lr_sld C h (i + 3) (by omega) (nI_add i 3) dL_law_191 ?_
  refine lr_call C h (k := 0) (As := [.int (xs (i + 1)), .int (xs (i + 2)), .int (xs (i + 3))]) (rest := []) hM1 (cwV 3 hts gL_law_X6_speaker rfl rfl rfl (by decide +kernel) ⟨Nat.le_of_ble_eq_true rfl, Nat.le_of_ble_eq_true rfl⟩) (by decide) (uc_0 E _) (T := TX6) (N := 6) rfl rfl hl.1 rfl (Nat.le_of_ble_eq_true rfl) dL_law_192 (fun r1 M1 H locs hw1 h => ?_)
  obtain ⟨Q2, hM2, K2⟩ := K1 r1 M1 hw1
  refine lv_aload_n hx hb dL_law_195 rfl (lv_at hl 3 rfl) ?_
  refine lv_aload_n hx hb dL_law_196 rfl (lv_at hl 1 rfl) ?_
  refine lv_iload_n hx hb dL_law_197 rfl (lv_at hl 0 rfl) ?_
  refine lv_iconst (v := 1) hx hb dL_law_198 (by decide) ?_
  refine lv_iadd hx hb dL_law_199 ?_
  refine lr_sld C h (i + 1) (by omega) (nI_add i 1) dL_law_200 ?_
  refine lv_aload_n hx hb dL_law_201 rfl (lv_at hl 1 rfl) ?_
  refine lv_iload_n hx hb dL_law_202 rfl (lv_at hl 0 rfl) ?_
  refine lv_iconst (v := 2) hx hb dL_law_203 (by decide) ?_
  refine lv_iadd hx hb dL_law_204 ?_
  refine lr_sld C h (i + 2) (by omega) (nI_add i 2) dL_law_205 ?_
  refine lv_aload_n hx hb dL_law_206 rfl (lv_at hl 1 rfl) ?_
  refine lv_iload_n hx hb dL_law_207 rfl (lv_at hl 0 rfl) ?_
  refine lv_iconst (v := 3) hx hb dL_law_208 (by decide) ?_
  refine lv_iadd hx hb dL_law_209 ?_
  refine lr_sld C h (i + 3) (by omega) (nI_add i 3) dL_law_210 ?_
  refine lr_call C h (k := 251) (As := [.int (xs (i + 1)), .int (xs (i + 2)), .int (xs (i + 3))]) (rest := [.int r1]) hM2 (cwV 3 hts gL_law_X7_speaker rfl rfl rfl (by decide +kernel) ⟨Nat.le_of_ble_eq_true rfl, Nat.le_of_ble_eq_true rfl⟩) (by decide) (uc_251 E _) (T := TX7) (N := 17) rfl rfl hl.1 rfl (Nat.le_of_ble_eq_true rfl) dL_law_211 (fun r2 M2 H locs hw2 h => ?_)
  obtain ⟨er, A2⟩ := K2 r2 M2 hw2
  exact lv_icmp_eq (tgt := 1284) hx hb dL_law_214 (by decide) (fun _ => kk M2 H locs A2 h) (fun z => absurd er z)
set_option maxHeartbeats 4000000 in
set_option maxRecDepth 100000 in
theorem lwc_can {p : Program} {l : Launch} {e : Env} {s : State} {m : MethodId} {below : List Frame} {meth : Method} {c : Code} {Q : State → Prop} {E : uE} {S : uS} {b L : Nat} {xs : Nat → Int32} (C : lC E S b L xs p s m c) (i : Nat) (hi : i + 7 ≤ L) {M : uM} (A : rAll M) {H : Heap} {locs : List Loc} {ls : Array Slot} (h : uH E M s H locs) (hl : lv_has ls 4 [(3, .int (nI i)), (0, .ref b), (1, .ref (E.2.1 0)), (2, .ref (E.2.1 251))])
    (kk : ∀ (M' : uM) (H : Heap) (locs : List Loc), rAll M' → uH E M' s H locs → W p l e room_1 s m #[Value.ref b] below meth c H locs 263 4733 Q (F0 m 1284 ls [])) : W p l e room_1 s m #[Value.ref b] below meth c H locs 263 4733 Q (F0 m 219 ls []) := by
  have hx := C.1.1.1
  have hb := C.1.1.2.1
  have hown := C.1.1.2.2.2.1
  have hts := C.1.1.2.2.2.2
  have hI := C.1.2.2.2
  obtain ⟨Q1, hM1, K1⟩ := z6_can l E hI M A ((xs (i + 1))) ((xs (i + 2))) ((xs (i + 3)))
  refine lv_aload_n hx hb dL_law_219 rfl (lv_at hl 2 rfl) ?_
  refine lv_aload_n hx hb dL_law_220 rfl (lv_at hl 1 rfl) ?_
  refine lv_iload_n hx hb dL_law_221 rfl (lv_at hl 0 rfl) ?_
  refine lv_iconst (v := 1) hx hb dL_law_222 (by decide) ?_
  refine lv_iadd hx hb dL_law_223 ?_
  refine lr_sld C h (i + 1) (by omega) (nI_add i 1) dL_law_224 ?_
  refine lv_aload_n hx hb dL_law_225 rfl (lv_at hl 1 rfl) ?_
  refine lv_iload_n hx hb dL_law_226 rfl (lv_at hl 0 rfl) ?_
  refine lv_iconst (v := 2) hx hb dL_law_227 (by decide) ?_
  refine lv_iadd hx hb dL_law_228 ?_
  refine lr_sld C h (i + 2) (by omega) (nI_add i 2) dL_law_229 ?_
  refine lv_aload_n hx hb dL_law_230 rfl (lv_at hl 1 rfl) ?_
  refine lv_iload_n hx hb dL_law_231 rfl (lv_at hl 0 rfl) ?_
  refine lv_iconst (v := 3) hx hb dL_law_232 (by decide) ?_
  refine lv_iadd hx hb dL_law_233 ?_
  refine lr_sld C h (i + 3) (by omega) (nI_add i 3) dL_law_234 ?_
  refine lr_call C h (k := 0) (As := [.int (xs (i + 1)), .int (xs (i + 2)), .int (xs (i + 3))]) (rest := []) hM1 (cwV 3 hts gL_law_X6_can rfl rfl rfl (by decide +kernel) ⟨Nat.le_of_ble_eq_true rfl, Nat.le_of_ble_eq_true rfl⟩) (by decide) (uc_0 E _) (T := TX6) (N := 6) rfl rfl hl.1 rfl (Nat.le_of_ble_eq_true rfl) dL_law_235 (fun r1 M1 H locs hw1 h => ?_)
  obtain ⟨Q2, hM2, K2⟩ := K1 r1 M1 hw1
  refine lv_aload_n hx hb dL_law_238 rfl (lv_at hl 3 rfl) ?_
  refine lv_aload_n hx hb dL_law_239 rfl (lv_at hl 1 rfl) ?_
  refine lv_iload_n hx hb dL_law_240 rfl (lv_at hl 0 rfl) ?_
  refine lv_iconst (v := 1) hx hb dL_law_241 (by decide) ?_
  refine lv_iadd hx hb dL_law_242 ?_
  refine lr_sld C h (i + 1) (by omega) (nI_add i 1) dL_law_243 ?_
  refine lv_aload_n hx hb dL_law_244 rfl (lv_at hl 1 rfl) ?_
  refine lv_iload_n hx hb dL_law_245 rfl (lv_at hl 0 rfl) ?_
  refine lv_iconst (v := 2) hx hb dL_law_246 (by decide) ?_
  refine lv_iadd hx hb dL_law_247 ?_
  refine lr_sld C h (i + 2) (by omega) (nI_add i 2) dL_law_248 ?_
  refine lv_aload_n hx hb dL_law_249 rfl (lv_at hl 1 rfl) ?_
  refine lv_iload_n hx hb dL_law_250 rfl (lv_at hl 0 rfl) ?_
  refine lv_iconst (v := 3) hx hb dL_law_251 (by decide) ?_
  refine lv_iadd hx hb dL_law_252 ?_
  refine lr_sld C h (i + 3) (by omega) (nI_add i 3) dL_law_253 ?_
  refine lr_call C h (k := 251) (As := [.int (xs (i + 1)), .int (xs (i + 2)), .int (xs (i + 3))]) (rest := [.int r1]) hM2 (cwV 3 hts gL_law_X7_can rfl rfl rfl (by decide +kernel) ⟨Nat.le_of_ble_eq_true rfl, Nat.le_of_ble_eq_true rfl⟩) (by decide) (uc_251 E _) (T := TX7) (N := 17) rfl rfl hl.1 rfl (Nat.le_of_ble_eq_true rfl) dL_law_254 (fun r2 M2 H locs hw2 h => ?_)
  obtain ⟨er, A2⟩ := K2 r2 M2 hw2
  exact lv_icmp_eq (tgt := 1284) hx hb dL_law_257 (by decide) (fun _ => kk M2 H locs A2 h) (fun z => absurd er z)
set_option maxHeartbeats 4000000 in
set_option maxRecDepth 100000 in
theorem lwc_word {p : Program} {l : Launch} {e : Env} {s : State} {m : MethodId} {below : List Frame} {meth : Method} {c : Code} {Q : State → Prop} {E : uE} {S : uS} {b L : Nat} {xs : Nat → Int32} (C : lC E S b L xs p s m c) (i : Nat) (hi : i + 7 ≤ L) {M : uM} (A : rAll M) {H : Heap} {locs : List Loc} {ls : Array Slot} (h : uH E M s H locs) (hl : lv_has ls 4 [(3, .int (nI i)), (0, .ref b), (1, .ref (E.2.1 0)), (2, .ref (E.2.1 251))])
    (kk : ∀ (M' : uM) (H : Heap) (locs : List Loc), rAll M' → uH E M' s H locs → W p l e room_1 s m #[Value.ref b] below meth c H locs 263 4733 Q (F0 m 1284 ls [])) : W p l e room_1 s m #[Value.ref b] below meth c H locs 263 4733 Q (F0 m 262 ls []) := by
  have hx := C.1.1.1
  have hb := C.1.1.2.1
  have hown := C.1.1.2.2.2.1
  have hts := C.1.1.2.2.2.2
  have hI := C.1.2.2.2
  obtain ⟨Q1, hM1, K1⟩ := z6_word l E hI M A ((xs (i + 1)))
  refine lv_aload_n hx hb dL_law_262 rfl (lv_at hl 2 rfl) ?_
  refine lv_aload_n hx hb dL_law_263 rfl (lv_at hl 1 rfl) ?_
  refine lv_iload_n hx hb dL_law_264 rfl (lv_at hl 0 rfl) ?_
  refine lv_iconst (v := 1) hx hb dL_law_265 (by decide) ?_
  refine lv_iadd hx hb dL_law_266 ?_
  refine lr_sld C h (i + 1) (by omega) (nI_add i 1) dL_law_267 ?_
  refine lr_call C h (k := 0) (As := [.int (xs (i + 1))]) (rest := []) hM1 (cwV 1 hts gL_law_X6_word rfl rfl rfl (by decide +kernel) ⟨Nat.le_of_ble_eq_true rfl, Nat.le_of_ble_eq_true rfl⟩) (by decide) (uc_0 E _) (T := TX6) (N := 6) rfl rfl hl.1 rfl (Nat.le_of_ble_eq_true rfl) dL_law_268 (fun r1 M1 H locs hw1 h => ?_)
  obtain ⟨Q2, hM2, K2⟩ := K1 r1 M1 hw1
  refine lv_aload_n hx hb dL_law_271 rfl (lv_at hl 3 rfl) ?_
  refine lv_aload_n hx hb dL_law_272 rfl (lv_at hl 1 rfl) ?_
  refine lv_iload_n hx hb dL_law_273 rfl (lv_at hl 0 rfl) ?_
  refine lv_iconst (v := 1) hx hb dL_law_274 (by decide) ?_
  refine lv_iadd hx hb dL_law_275 ?_
  refine lr_sld C h (i + 1) (by omega) (nI_add i 1) dL_law_276 ?_
  refine lr_call C h (k := 251) (As := [.int (xs (i + 1))]) (rest := [.int r1]) hM2 (cwV 1 hts gL_law_X7_word rfl rfl rfl (by decide +kernel) ⟨Nat.le_of_ble_eq_true rfl, Nat.le_of_ble_eq_true rfl⟩) (by decide) (uc_251 E _) (T := TX7) (N := 17) rfl rfl hl.1 rfl (Nat.le_of_ble_eq_true rfl) dL_law_277 (fun r2 M2 H locs hw2 h => ?_)
  obtain ⟨er, A2⟩ := K2 r2 M2 hw2
  exact lv_icmp_eq (tgt := 1284) hx hb dL_law_280 (by decide) (fun _ => kk M2 H locs A2 h) (fun z => absurd er z)
set_option maxHeartbeats 4000000 in
set_option maxRecDepth 100000 in
theorem lwc_guard {p : Program} {l : Launch} {e : Env} {s : State} {m : MethodId} {below : List Frame} {meth : Method} {c : Code} {Q : State → Prop} {E : uE} {S : uS} {b L : Nat} {xs : Nat → Int32} (C : lC E S b L xs p s m c) (i : Nat) (hi : i + 7 ≤ L) {M : uM} (A : rAll M) {H : Heap} {locs : List Loc} {ls : Array Slot} (h : uH E M s H locs) (hl : lv_has ls 4 [(3, .int (nI i)), (0, .ref b), (1, .ref (E.2.1 0)), (2, .ref (E.2.1 251))])
    (kk : ∀ (M' : uM) (H : Heap) (locs : List Loc), rAll M' → uH E M' s H locs → W p l e room_1 s m #[Value.ref b] below meth c H locs 263 4733 Q (F0 m 1284 ls [])) : W p l e room_1 s m #[Value.ref b] below meth c H locs 263 4733 Q (F0 m 285 ls []) := by
  have hx := C.1.1.1
  have hb := C.1.1.2.1
  have hown := C.1.1.2.2.2.1
  have hts := C.1.1.2.2.2.2
  have hI := C.1.2.2.2
  obtain ⟨Q1, hM1, K1⟩ := z6_guard l E hI M A ((xs (i + 1))) ((xs (i + 2)))
  refine lv_aload_n hx hb dL_law_285 rfl (lv_at hl 2 rfl) ?_
  refine lv_aload_n hx hb dL_law_286 rfl (lv_at hl 1 rfl) ?_
  refine lv_iload_n hx hb dL_law_287 rfl (lv_at hl 0 rfl) ?_
  refine lv_iconst (v := 1) hx hb dL_law_288 (by decide) ?_
  refine lv_iadd hx hb dL_law_289 ?_
  refine lr_sld C h (i + 1) (by omega) (nI_add i 1) dL_law_290 ?_
  refine lv_aload_n hx hb dL_law_291 rfl (lv_at hl 1 rfl) ?_
  refine lv_iload_n hx hb dL_law_292 rfl (lv_at hl 0 rfl) ?_
  refine lv_iconst (v := 2) hx hb dL_law_293 (by decide) ?_
  refine lv_iadd hx hb dL_law_294 ?_
  refine lr_sld C h (i + 2) (by omega) (nI_add i 2) dL_law_295 ?_
  refine lr_call C h (k := 0) (As := [.int (xs (i + 1)), .int (xs (i + 2))]) (rest := []) hM1 (cwV 2 hts gL_law_X6_guard rfl rfl rfl (by decide +kernel) ⟨Nat.le_of_ble_eq_true rfl, Nat.le_of_ble_eq_true rfl⟩) (by decide) (uc_0 E _) (T := TX6) (N := 6) rfl rfl hl.1 rfl (Nat.le_of_ble_eq_true rfl) dL_law_296 (fun r1 M1 H locs hw1 h => ?_)
  obtain ⟨Q2, hM2, K2⟩ := K1 r1 M1 hw1
  refine lv_aload_n hx hb dL_law_299 rfl (lv_at hl 3 rfl) ?_
  refine lv_aload_n hx hb dL_law_300 rfl (lv_at hl 1 rfl) ?_
  refine lv_iload_n hx hb dL_law_301 rfl (lv_at hl 0 rfl) ?_
  refine lv_iconst (v := 1) hx hb dL_law_302 (by decide) ?_
  refine lv_iadd hx hb dL_law_303 ?_
  refine lr_sld C h (i + 1) (by omega) (nI_add i 1) dL_law_304 ?_
  refine lv_aload_n hx hb dL_law_305 rfl (lv_at hl 1 rfl) ?_
  refine lv_iload_n hx hb dL_law_306 rfl (lv_at hl 0 rfl) ?_
  refine lv_iconst (v := 2) hx hb dL_law_307 (by decide) ?_
  refine lv_iadd hx hb dL_law_308 ?_
  refine lr_sld C h (i + 2) (by omega) (nI_add i 2) dL_law_309 ?_
  refine lr_call C h (k := 251) (As := [.int (xs (i + 1)), .int (xs (i + 2))]) (rest := [.int r1]) hM2 (cwV 2 hts gL_law_X7_guard rfl rfl rfl (by decide +kernel) ⟨Nat.le_of_ble_eq_true rfl, Nat.le_of_ble_eq_true rfl⟩) (by decide) (uc_251 E _) (T := TX7) (N := 17) rfl rfl hl.1 rfl (Nat.le_of_ble_eq_true rfl) dL_law_310 (fun r2 M2 H locs hw2 h => ?_)
  obtain ⟨er, A2⟩ := K2 r2 M2 hw2
  exact lv_icmp_eq (tgt := 1284) hx hb dL_law_313 (by decide) (fun _ => kk M2 H locs A2 h) (fun z => absurd er z)
set_option maxHeartbeats 4000000 in
set_option maxRecDepth 100000 in
theorem lwc_of {p : Program} {l : Launch} {e : Env} {s : State} {m : MethodId} {below : List Frame} {meth : Method} {c : Code} {Q : State → Prop} {E : uE} {S : uS} {b L : Nat} {xs : Nat → Int32} (C : lC E S b L xs p s m c) (i : Nat) (hi : i + 7 ≤ L) {M : uM} (A : rAll M) {H : Heap} {locs : List Loc} {ls : Array Slot} (h : uH E M s H locs) (hl : lv_has ls 4 [(3, .int (nI i)), (0, .ref b), (1, .ref (E.2.1 0)), (2, .ref (E.2.1 251))])
    (kk : ∀ (M' : uM) (H : Heap) (locs : List Loc), rAll M' → uH E M' s H locs → W p l e room_1 s m #[Value.ref b] below meth c H locs 263 4733 Q (F0 m 1284 ls [])) : W p l e room_1 s m #[Value.ref b] below meth c H locs 263 4733 Q (F0 m 318 ls []) := by
  have hx := C.1.1.1
  have hb := C.1.1.2.1
  have hown := C.1.1.2.2.2.1
  have hts := C.1.1.2.2.2.2
  have hI := C.1.2.2.2
  obtain ⟨Q1, hM1, K1⟩ := z6_of l E hI M A ((xs (i + 1))) ((xs (i + 2)))
  refine lv_aload_n hx hb dL_law_318 rfl (lv_at hl 2 rfl) ?_
  refine lv_aload_n hx hb dL_law_319 rfl (lv_at hl 1 rfl) ?_
  refine lv_iload_n hx hb dL_law_320 rfl (lv_at hl 0 rfl) ?_
  refine lv_iconst (v := 1) hx hb dL_law_321 (by decide) ?_
  refine lv_iadd hx hb dL_law_322 ?_
  refine lr_sld C h (i + 1) (by omega) (nI_add i 1) dL_law_323 ?_
  refine lv_aload_n hx hb dL_law_324 rfl (lv_at hl 1 rfl) ?_
  refine lv_iload_n hx hb dL_law_325 rfl (lv_at hl 0 rfl) ?_
  refine lv_iconst (v := 2) hx hb dL_law_326 (by decide) ?_
  refine lv_iadd hx hb dL_law_327 ?_
  refine lr_sld C h (i + 2) (by omega) (nI_add i 2) dL_law_328 ?_
  refine lr_call C h (k := 0) (As := [.int (xs (i + 1)), .int (xs (i + 2))]) (rest := []) hM1 (cwV 2 hts gL_law_X6_of rfl rfl rfl (by decide +kernel) ⟨Nat.le_of_ble_eq_true rfl, Nat.le_of_ble_eq_true rfl⟩) (by decide) (uc_0 E _) (T := TX6) (N := 6) rfl rfl hl.1 rfl (Nat.le_of_ble_eq_true rfl) dL_law_329 (fun r1 M1 H locs hw1 h => ?_)
  obtain ⟨Q2, hM2, K2⟩ := K1 r1 M1 hw1
  refine lv_aload_n hx hb dL_law_332 rfl (lv_at hl 3 rfl) ?_
  refine lv_aload_n hx hb dL_law_333 rfl (lv_at hl 1 rfl) ?_
  refine lv_iload_n hx hb dL_law_334 rfl (lv_at hl 0 rfl) ?_
  refine lv_iconst (v := 1) hx hb dL_law_335 (by decide) ?_
  refine lv_iadd hx hb dL_law_336 ?_
  refine lr_sld C h (i + 1) (by omega) (nI_add i 1) dL_law_337 ?_
  refine lv_aload_n hx hb dL_law_338 rfl (lv_at hl 1 rfl) ?_
  refine lv_iload_n hx hb dL_law_339 rfl (lv_at hl 0 rfl) ?_
  refine lv_iconst (v := 2) hx hb dL_law_340 (by decide) ?_
  refine lv_iadd hx hb dL_law_341 ?_
  refine lr_sld C h (i + 2) (by omega) (nI_add i 2) dL_law_342 ?_
  refine lr_call C h (k := 251) (As := [.int (xs (i + 1)), .int (xs (i + 2))]) (rest := [.int r1]) hM2 (cwV 2 hts gL_law_X7_of rfl rfl rfl (by decide +kernel) ⟨Nat.le_of_ble_eq_true rfl, Nat.le_of_ble_eq_true rfl⟩) (by decide) (uc_251 E _) (T := TX7) (N := 17) rfl rfl hl.1 rfl (Nat.le_of_ble_eq_true rfl) dL_law_343 (fun r2 M2 H locs hw2 h => ?_)
  obtain ⟨er, A2⟩ := K2 r2 M2 hw2
  exact lv_icmp_eq (tgt := 1284) hx hb dL_law_346 (by decide) (fun _ => kk M2 H locs A2 h) (fun z => absurd er z)
set_option maxHeartbeats 4000000 in
set_option maxRecDepth 100000 in
theorem lwc_skill {p : Program} {l : Launch} {e : Env} {s : State} {m : MethodId} {below : List Frame} {meth : Method} {c : Code} {Q : State → Prop} {E : uE} {S : uS} {b L : Nat} {xs : Nat → Int32} (C : lC E S b L xs p s m c) (i : Nat) (hi : i + 7 ≤ L) {M : uM} (A : rAll M) {H : Heap} {locs : List Loc} {ls : Array Slot} (h : uH E M s H locs) (hl : lv_has ls 4 [(3, .int (nI i)), (0, .ref b), (1, .ref (E.2.1 0)), (2, .ref (E.2.1 251))])
    (kk : ∀ (M' : uM) (H : Heap) (locs : List Loc), rAll M' → uH E M' s H locs → W p l e room_1 s m #[Value.ref b] below meth c H locs 263 4733 Q (F0 m 1284 ls [])) : W p l e room_1 s m #[Value.ref b] below meth c H locs 263 4733 Q (F0 m 351 ls []) := by
  have hx := C.1.1.1
  have hb := C.1.1.2.1
  have hown := C.1.1.2.2.2.1
  have hts := C.1.1.2.2.2.2
  have hI := C.1.2.2.2
  obtain ⟨Q1, hM1, K1⟩ := z6_skill l E hI M A ((xs (i + 1))) ((xs (i + 2))) ((xs (i + 3)))
  refine lv_aload_n hx hb dL_law_351 rfl (lv_at hl 2 rfl) ?_
  refine lv_aload_n hx hb dL_law_352 rfl (lv_at hl 1 rfl) ?_
  refine lv_iload_n hx hb dL_law_353 rfl (lv_at hl 0 rfl) ?_
  refine lv_iconst (v := 1) hx hb dL_law_354 (by decide) ?_
  refine lv_iadd hx hb dL_law_355 ?_
  refine lr_sld C h (i + 1) (by omega) (nI_add i 1) dL_law_356 ?_
  refine lv_aload_n hx hb dL_law_357 rfl (lv_at hl 1 rfl) ?_
  refine lv_iload_n hx hb dL_law_358 rfl (lv_at hl 0 rfl) ?_
  refine lv_iconst (v := 2) hx hb dL_law_359 (by decide) ?_
  refine lv_iadd hx hb dL_law_360 ?_
  refine lr_sld C h (i + 2) (by omega) (nI_add i 2) dL_law_361 ?_
  refine lv_aload_n hx hb dL_law_362 rfl (lv_at hl 1 rfl) ?_
  refine lv_iload_n hx hb dL_law_363 rfl (lv_at hl 0 rfl) ?_
  refine lv_iconst (v := 3) hx hb dL_law_364 (by decide) ?_
  refine lv_iadd hx hb dL_law_365 ?_
  refine lr_sld C h (i + 3) (by omega) (nI_add i 3) dL_law_366 ?_
  refine lr_call C h (k := 0) (As := [.int (xs (i + 1)), .int (xs (i + 2)), .int (xs (i + 3))]) (rest := []) hM1 (cwV 3 hts gL_law_X6_skill rfl rfl rfl (by decide +kernel) ⟨Nat.le_of_ble_eq_true rfl, Nat.le_of_ble_eq_true rfl⟩) (by decide) (uc_0 E _) (T := TX6) (N := 6) rfl rfl hl.1 rfl (Nat.le_of_ble_eq_true rfl) dL_law_367 (fun r1 M1 H locs hw1 h => ?_)
  obtain ⟨Q2, hM2, K2⟩ := K1 r1 M1 hw1
  refine lv_aload_n hx hb dL_law_370 rfl (lv_at hl 3 rfl) ?_
  refine lv_aload_n hx hb dL_law_371 rfl (lv_at hl 1 rfl) ?_
  refine lv_iload_n hx hb dL_law_372 rfl (lv_at hl 0 rfl) ?_
  refine lv_iconst (v := 1) hx hb dL_law_373 (by decide) ?_
  refine lv_iadd hx hb dL_law_374 ?_
  refine lr_sld C h (i + 1) (by omega) (nI_add i 1) dL_law_375 ?_
  refine lv_aload_n hx hb dL_law_376 rfl (lv_at hl 1 rfl) ?_
  refine lv_iload_n hx hb dL_law_377 rfl (lv_at hl 0 rfl) ?_
  refine lv_iconst (v := 2) hx hb dL_law_378 (by decide) ?_
  refine lv_iadd hx hb dL_law_379 ?_
  refine lr_sld C h (i + 2) (by omega) (nI_add i 2) dL_law_380 ?_
  refine lv_aload_n hx hb dL_law_381 rfl (lv_at hl 1 rfl) ?_
  refine lv_iload_n hx hb dL_law_382 rfl (lv_at hl 0 rfl) ?_
  refine lv_iconst (v := 3) hx hb dL_law_383 (by decide) ?_
  refine lv_iadd hx hb dL_law_384 ?_
  refine lr_sld C h (i + 3) (by omega) (nI_add i 3) dL_law_385 ?_
  refine lr_call C h (k := 251) (As := [.int (xs (i + 1)), .int (xs (i + 2)), .int (xs (i + 3))]) (rest := [.int r1]) hM2 (cwV 3 hts gL_law_X7_skill rfl rfl rfl (by decide +kernel) ⟨Nat.le_of_ble_eq_true rfl, Nat.le_of_ble_eq_true rfl⟩) (by decide) (uc_251 E _) (T := TX7) (N := 17) rfl rfl hl.1 rfl (Nat.le_of_ble_eq_true rfl) dL_law_386 (fun r2 M2 H locs hw2 h => ?_)
  obtain ⟨er, A2⟩ := K2 r2 M2 hw2
  exact lv_icmp_eq (tgt := 1284) hx hb dL_law_389 (by decide) (fun _ => kk M2 H locs A2 h) (fun z => absurd er z)
set_option maxHeartbeats 4000000 in
set_option maxRecDepth 100000 in
theorem lwc_type {p : Program} {l : Launch} {e : Env} {s : State} {m : MethodId} {below : List Frame} {meth : Method} {c : Code} {Q : State → Prop} {E : uE} {S : uS} {b L : Nat} {xs : Nat → Int32} (C : lC E S b L xs p s m c) (i : Nat) (hi : i + 7 ≤ L) {M : uM} (A : rAll M) {H : Heap} {locs : List Loc} {ls : Array Slot} (h : uH E M s H locs) (hl : lv_has ls 4 [(3, .int (nI i)), (0, .ref b), (1, .ref (E.2.1 0)), (2, .ref (E.2.1 251))])
    (kk : ∀ (M' : uM) (H : Heap) (locs : List Loc), rAll M' → uH E M' s H locs → W p l e room_1 s m #[Value.ref b] below meth c H locs 263 4733 Q (F0 m 1284 ls [])) : W p l e room_1 s m #[Value.ref b] below meth c H locs 263 4733 Q (F0 m 394 ls []) := by
  have hx := C.1.1.1
  have hb := C.1.1.2.1
  have hown := C.1.1.2.2.2.1
  have hts := C.1.1.2.2.2.2
  have hI := C.1.2.2.2
  obtain ⟨Q1, hM1, K1⟩ := z6_type l E hI M A ((xs (i + 1)))
  refine lv_aload_n hx hb dL_law_394 rfl (lv_at hl 2 rfl) ?_
  refine lv_aload_n hx hb dL_law_395 rfl (lv_at hl 1 rfl) ?_
  refine lv_iload_n hx hb dL_law_396 rfl (lv_at hl 0 rfl) ?_
  refine lv_iconst (v := 1) hx hb dL_law_397 (by decide) ?_
  refine lv_iadd hx hb dL_law_398 ?_
  refine lr_sld C h (i + 1) (by omega) (nI_add i 1) dL_law_399 ?_
  refine lr_call C h (k := 0) (As := [.int (xs (i + 1))]) (rest := []) hM1 (cwV 1 hts gL_law_X6_type rfl rfl rfl (by decide +kernel) ⟨Nat.le_of_ble_eq_true rfl, Nat.le_of_ble_eq_true rfl⟩) (by decide) (uc_0 E _) (T := TX6) (N := 6) rfl rfl hl.1 rfl (Nat.le_of_ble_eq_true rfl) dL_law_400 (fun r1 M1 H locs hw1 h => ?_)
  obtain ⟨Q2, hM2, K2⟩ := K1 r1 M1 hw1
  refine lv_aload_n hx hb dL_law_403 rfl (lv_at hl 3 rfl) ?_
  refine lv_aload_n hx hb dL_law_404 rfl (lv_at hl 1 rfl) ?_
  refine lv_iload_n hx hb dL_law_405 rfl (lv_at hl 0 rfl) ?_
  refine lv_iconst (v := 1) hx hb dL_law_406 (by decide) ?_
  refine lv_iadd hx hb dL_law_407 ?_
  refine lr_sld C h (i + 1) (by omega) (nI_add i 1) dL_law_408 ?_
  refine lr_call C h (k := 251) (As := [.int (xs (i + 1))]) (rest := [.int r1]) hM2 (cwV 1 hts gL_law_X7_type rfl rfl rfl (by decide +kernel) ⟨Nat.le_of_ble_eq_true rfl, Nat.le_of_ble_eq_true rfl⟩) (by decide) (uc_251 E _) (T := TX7) (N := 17) rfl rfl hl.1 rfl (Nat.le_of_ble_eq_true rfl) dL_law_409 (fun r2 M2 H locs hw2 h => ?_)
  obtain ⟨er, A2⟩ := K2 r2 M2 hw2
  exact lv_icmp_eq (tgt := 1284) hx hb dL_law_412 (by decide) (fun _ => kk M2 H locs A2 h) (fun z => absurd er z)
set_option maxHeartbeats 4000000 in
set_option maxRecDepth 100000 in
theorem lwc_tongues {p : Program} {l : Launch} {e : Env} {s : State} {m : MethodId} {below : List Frame} {meth : Method} {c : Code} {Q : State → Prop} {E : uE} {S : uS} {b L : Nat} {xs : Nat → Int32} (C : lC E S b L xs p s m c) (i : Nat) (hi : i + 7 ≤ L) {M : uM} (A : rAll M) {H : Heap} {locs : List Loc} {ls : Array Slot} (h : uH E M s H locs) (hl : lv_has ls 4 [(3, .int (nI i)), (0, .ref b), (1, .ref (E.2.1 0)), (2, .ref (E.2.1 251))])
    (kk : ∀ (M' : uM) (H : Heap) (locs : List Loc), rAll M' → uH E M' s H locs → W p l e room_1 s m #[Value.ref b] below meth c H locs 263 4733 Q (F0 m 1284 ls [])) : W p l e room_1 s m #[Value.ref b] below meth c H locs 263 4733 Q (F0 m 417 ls []) := by
  have hx := C.1.1.1
  have hb := C.1.1.2.1
  have hown := C.1.1.2.2.2.1
  have hts := C.1.1.2.2.2.2
  have hI := C.1.2.2.2
  obtain ⟨Q1, hM1, K1⟩ := z6_tongues l E hI S M A 
  refine lv_aload_n hx hb dL_law_417 rfl (lv_at hl 2 rfl) ?_
  refine lr_callT C h (k := 0) (As := []) (rest := []) hM1 (cwV 0 hts gL_law_X6_tongues rfl rfl rfl (by decide +kernel) ⟨Nat.le_of_ble_eq_true rfl, Nat.le_of_ble_eq_true rfl⟩) (by decide) (uc_0 E _) (T := TX6) (N := 6) rfl rfl hl.1 rfl (Nat.le_of_ble_eq_true rfl) dL_law_418 (fun r1 M1 H locs hw1 h => ?_)
  obtain ⟨Q2, hM2, K2⟩ := K1 r1 M1 hw1
  refine lv_aload_n hx hb dL_law_421 rfl (lv_at hl 3 rfl) ?_
  refine lr_call C h (k := 251) (As := []) (rest := [.int r1]) hM2 (cwV 0 hts gL_law_X7_tongues rfl rfl rfl (by decide +kernel) ⟨Nat.le_of_ble_eq_true rfl, Nat.le_of_ble_eq_true rfl⟩) (by decide) (uc_251 E _) (T := TX7) (N := 17) rfl rfl hl.1 rfl (Nat.le_of_ble_eq_true rfl) dL_law_422 (fun r2 M2 H locs hw2 h => ?_)
  obtain ⟨er, A2⟩ := K2 r2 M2 hw2
  exact lv_icmp_eq (tgt := 1284) hx hb dL_law_425 (by decide) (fun _ => kk M2 H locs A2 h) (fun z => absurd er z)
