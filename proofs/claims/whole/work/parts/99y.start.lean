set_option maxHeartbeats 8000000 in
set_option maxRecDepth 100000 in
/-- THE LAW, from its entry -/
theorem whole_start {p : Program} {e : Env} {s : State} {m : MethodId} {below : List Frame} {meth : Method} {c : Code} (l : Launch) {b L : Nat} {xs : Nat → Int32} (hL : L ≤ 448) (C0 : lw_At p s m meth c b L xs) : W p l e room_1 s m #[Value.ref b] below meth c s.heap [] 0 0 (lw_Z below #[Value.ref b] s) (entryFrame m ([Value.ref b] : List Value).toArray 4) := by
  obtain ⟨hx, hb, hr, hml, hown0, hts0, hX, hbl, hlocks, hgv⟩ := id C0
  have hown : s.vm.findClass RL = some m.cls := hown0
  have hts : ∀ w ∈ wsL_law, w.before #[Value.ref b] s = true := fun w hw => hts0 w (wsL_law_in w hw)
  obtain ⟨c0, iS0, hKn0⟩ := u_known (C := RX0) (T := TX0) (N := 4) (n := 4) hts inlX0 (hts (.instantiable RX0 4) (by decide +kernel))
  obtain ⟨c1, iS1, hKn1⟩ := u_known (C := RX1) (T := TX1) (N := 11) (n := 11) hts inlX1 (hts (.instantiable RX1 11) (by decide +kernel))
  obtain ⟨c2, iS2, hKn2⟩ := u_known (C := RX2) (T := TX2) (N := 5) (n := 5) hts inlX2 (hts (.instantiable RX2 5) (by decide +kernel))
  obtain ⟨c3, iS3, hKn3⟩ := u_known (C := RX3) (T := TX3) (N := 6) (n := 6) hts inlX3 (hts (.instantiable RX3 6) (by decide +kernel))
  obtain ⟨c4, iS4, hKn4⟩ := u_known (C := RX4) (T := TX4) (N := 4) (n := 4) hts inlX4 (hts (.instantiable RX4 4) (by decide +kernel))
  obtain ⟨c5, iS5, hKn5⟩ := u_known (C := RX5) (T := TX5) (N := 4) (n := 4) hts inlX5 (hts (.instantiable RX5 4) (by decide +kernel))
  obtain ⟨c6, iS6, hKn6⟩ := u_known (C := RX6) (T := TX6) (N := 6) (n := 6) hts inlX6 (hts (.instantiable RX6 6) (by decide +kernel))
  obtain ⟨c7, iS7, hKn7⟩ := u_known (C := RX7) (T := TX7) (N := 17) (n := 17) hts inlX7 (hts (.instantiable RX7 17) (by decide +kernel))
  obtain ⟨dC, dI, hKc⟩ : ∃ (dC : Nat → ClassId) (dI : Nat → Nat → Nat), ∀ (k : Nat) (q : vw_C), vwCl[k]? = some q → u_Kn s q.1 q.2.1 q.2.2 (dC k) (dI k) := by
    refine ⟨fun k => match k with | 0 => c0 | 1 => c1 | 2 => c2 | 3 => c3 | 4 => c4 | 5 => c5 | 6 => c6 | _ => c7, fun k => match k with | 0 => iS0 | 1 => iS1 | 2 => iS2 | 3 => iS3 | 4 => iS4 | 5 => iS5 | 6 => iS6 | _ => iS7, ?_⟩
    intro k q hq
    match k, hq with
    | 0, hq => cases hq; exact hKn0
    | 1, hq => cases hq; exact hKn1
    | 2, hq => cases hq; exact hKn2
    | 3, hq => cases hq; exact hKn3
    | 4, hq => cases hq; exact hKn4
    | 5, hq => cases hq; exact hKn5
    | 6, hq => cases hq; exact hKn6
    | 7, hq => cases hq; exact hKn7
    | k + 8, hq => simp [vwCl] at hq
  obtain ⟨d0, k0, p0, u0, v0, w0⟩ := Cond.arrayClass_spec (hts (.arrayClass .int) (by decide +kernel))
  obtain ⟨d1, k1, p1, u1, v1, w1⟩ := Cond.arrayClass_spec (hts (.arrayClass .long) (by decide +kernel))
  obtain ⟨d2, k2, p2, u2, v2, w2⟩ := Cond.arrayClass_spec (hts (.arrayClass .char) (by decide +kernel))
  have ao3 := hts0 (.arrayOver (.object "FordWord$Moment")) (by decide +kernel)
  have ao4 := hts0 (.arrayOver (.object "FordWord$Sheet")) (by decide +kernel)
  obtain ⟨p3, d3, k3, f3, g3, u3, v3, w3⟩ := Cond.arrayOver_spec ao3
  obtain ⟨p4, d4, k4, f4, g4, u4, v4, w4⟩ := Cond.arrayOver_spec ao4
  obtain ⟨cs, e0, e1, e2, e3, e4⟩ : ∃ cs : Nat → ClassId, cs 0 = d0 ∧ cs 1 = d1 ∧ cs 2 = d2 ∧ cs 3 = d3 ∧ cs 4 = d4 := ⟨fun k => match k with | 0 => d0 | 1 => d1 | 2 => d2 | 3 => d3 | _ => d4, rfl, rfl, rfl, rfl, rfl⟩
  have hK : va_K (dC, dI) vwCl (kTys cs) s := by
    refine ⟨hKc, fun k q hq => ?_⟩
    unfold kTys at hq
    rw [e0, e1, e2, e3, e4] at hq
    match k, hq with
    | 0, hq => cases hq; exact ⟨fun n z => ⟨fun k h => (by cases h), k0, v0, p0, w0⟩, u0⟩
    | 1, hq => cases hq; exact ⟨fun n z => ⟨fun k h => (by cases h), k1, v1, p1, w1⟩, u1⟩
    | 2, hq => cases hq; exact ⟨fun n z => ⟨fun k h => (by cases h), k2, v2, p2, w2⟩, u2⟩
    | 3, hq => cases hq; exact ⟨fun n z => ⟨fun k h => (by cases h), k3, u3, p3, v3⟩, k3, p3, u3, v3, f3, w3⟩
    | 4, hq => cases hq; exact ⟨fun n z => ⟨fun k h => (by cases h), k4, u4, p4, v4⟩, k4, p4, u4, v4, f4, w4⟩
    | k + 5, hq => simp at hq
  have hkN : kN s := ⟨va_Nw.of rfl (hts0 (.methodLinkNest RX1 33 yX3_init RX6) (by decide +kernel)), va_Nw.of rfl (hts0 (.methodLinkNest RX3 23 yX0_init RX6) (by decide +kernel)), va_Nw.of rfl (hts0 (.methodLinkNest RX6 30 yX5_init RX6) (by decide +kernel)), va_Nw.of rfl (hts0 (.methodLinkNest RX6 41 yX4_init RX6) (by decide +kernel)), va_AO.of ao3, va_AO.of ao4⟩
  have huN : uN s := ⟨va_Nw.of rfl (hts0 (.methodLinkNest RX1 82 yX6_has RX6) (by decide +kernel)), va_Nw.of rfl (hts0 (.methodLinkNest RX2 101 yX6_has RX6) (by decide +kernel))⟩
  have F : CallFix p m c code 4 s #[Value.ref b] wsL_law RL := ⟨hx, hb, hml, hown, hts⟩
  have C : kF (dC, dI) cs p s m #[Value.ref b] c code 4 wsL_law RL := ⟨F, hK, hkN⟩
  have h : kH (dC, dI) (fun q : Nat => s.heap.size ≤ q) [] s s.heap [] := ⟨fun k q h => by simp at h, ⟨fun i j p q h => by simp at h, fun k q h => by simp at h⟩, va_S.rf, fun _ h => h⟩
  have hl := lv_entry ([.ref b]) (n := 4) (Nat.le_of_ble_eq_true rfl)
  rw [lg_entry_eq]
  generalize (lg_sl ([.ref b]) ++ List.replicate (4 - (lg_sl ([.ref b])).length) Slot.unset).toArray = ls at hl ⊢
  have hl : lv_has ls 4 [(0, .ref b)] := hl
  refine kr_new C h (Cn := RX6) (T := TX6) (N := 6) (ci := 6) rfl inlX6 tyX6 tyX6_ok (by decide +kernel) (by decide +kernel) (by decide +kernel) (fs := [.null, .null, .int 0, .null, .null, .null]) (by decide +kernel) (Nat.le_of_ble_eq_true rfl) (Nat.le_of_ble_eq_true rfl) dL_law_0 (fun q6 H h => ?_)
  refine lv_dup hx hb dL_law_3 rfl ?_
  refine kr_callI C h (As := []) (rest := [.ref q6]) (k_X6_init l (dC, dI) cs) (cwI 0 hts gL_law_X6_init rfl rfl rfl (hts (.initialized RX6) (by decide +kernel)) (hts (.methodLink RL 9 yX6_init) (by decide +kernel)) (hts (.instanceMethod yX6_init) (by decide +kernel)) rfl (by decide +kernel) ⟨Nat.le_of_ble_eq_true rfl, Nat.le_of_ble_eq_true rfl⟩) rfl hl.1 rfl (Nat.le_of_ble_eq_true rfl) dL_law_4 ⟨Nat.le_of_ble_eq_true rfl, Nat.le_of_ble_eq_true rfl⟩ (fun a H locs ea h => ?_)
  rw [← ea]
  refine lv_astore_n (lv' := [(1, .ref (a 0)), (0, .ref b)]) hx hb dL_law_7 rfl hl (by decide) rfl (fun ls hl => ?_)
  refine kr_new C h (Cn := RX7) (T := TX7) (N := 17) (ci := 7) rfl inlX7 tyX7 tyX7_ok (by decide +kernel) (by decide +kernel) (by decide +kernel) (fs := [.null, .null, .int 0, .int 0, .int 0, .null, .null, .null, .int 0, .null, .null, .int 0, .int 0, .null, .null, .null, .null]) (by decide +kernel) (Nat.le_of_ble_eq_true rfl) (Nat.le_of_ble_eq_true rfl) dL_law_8 (fun q7 H h => ?_)
  refine lv_dup hx hb dL_law_11 rfl ?_
  refine kr_callI C h (As := []) (rest := [.ref q7]) (k_X7_init l (dC, dI) cs) (cwI 0 hts gL_law_X7_init rfl rfl rfl (hts (.initialized RX7) (by decide +kernel)) (hts (.methodLink RL 12 yX7_init) (by decide +kernel)) (hts (.instanceMethod yX7_init) (by decide +kernel)) rfl (by decide +kernel) ⟨Nat.le_of_ble_eq_true rfl, Nat.le_of_ble_eq_true rfl⟩) rfl hl.1 rfl (Nat.le_of_ble_eq_true rfl) dL_law_12 ⟨Nat.le_of_ble_eq_true rfl, Nat.le_of_ble_eq_true rfl⟩ (fun q H locs eq h => ?_)
  rw [← eq]
  refine lv_astore_n (lv' := [(2, .ref (q 0)), (1, .ref (a 0)), (0, .ref b)]) hx hb dL_law_15 rfl hl (by decide) rfl (fun ls hl => ?_)
  refine lv_iconst (v := 0) hx hb dL_law_16 (by decide) ?_
  refine lv_istore_n (lv' := [(3, .int 0), (2, .ref (q 0)), (1, .ref (a 0)), (0, .ref b)]) hx hb dL_law_17 rfl hl (by decide) rfl (fun ls hl => ?_)
  have hw := k_world h
  obtain ⟨hP, hD, hS, -⟩ := hw
  obtain ⟨hI, hfr⟩ := k_inj hD
  refine va_forget (fun q hq => hS.2.2 q hq) ?_
  have hu : uH ((dC, dI), aAll a q, cs) m0 s H [] := ⟨hP, hS.1, fun q hq hn => hS.2.1 q hq (Nat.not_le.mpr hq), fun l hl => absurd hl List.not_mem_nil⟩
  have hnA : ∀ x : Nat, x < s.heap.size → ¬ uA ((dC, dI), aAll a q, cs) x := fun x hx z => absurd (hfr x z) (Nat.not_le.mpr hx)
  have hs := flat_of_before _ hgv
  obtain ⟨adK, adV, hSk, hev⟩ := vk_Sof (args := #[Value.ref b]) (s := s) (N := 6) (tm := wTm) (len := tLen) (byt := tByt) (A := uA ((dC, dI), aAll a q, cs)) (by decide) (fun i hi => hs _ (w_ex ⟨i, hi⟩)) (fun i hi => hs _ (w_co ⟨i, hi⟩)) (fun i hi => hs _ (w_ar ⟨i, hi⟩)) (fun i hi => hs _ (w_le ⟨i, hi⟩)) (fun i hi j hj => hs _ (w_el ⟨i, hi⟩ ⟨j, Nat.lt_of_lt_of_le hj (tLen_le i hi)⟩ hj)) (fun i j hi hj hij => (w_ne ⟨i, hi⟩ ⟨j, hj⟩ hij).elim (fun z => Or.inl (hs _ z)) (fun z => Or.inr (hs _ z))) hnA
  have hZ : va_Z "java/lang/String" "COMPACT_STRINGS" "Z" (.int 1) (uA ((dC, dI), aAll a q, cs)) s s.heap := va_Zof (hts0 (.laysStatic "java/lang/String" "COMPACT_STRINGS" "Z") (by decide +kernel)) (hts0 (.initialized "java/lang/String") (by decide +kernel)) (va_eqt (hs _ w_cs)) hnA
  have hT : uT ((dC, dI), aAll a q, cs) (adK, adV) s s.heap := ⟨hSk, hZ, vk_R.of (hts0 (.stringRef RX5 32 "0123456789") (by decide +kernel)) (hev 0 (by decide)), vk_R.of (hts0 (.stringRef RX5 41 ";") (by decide +kernel)) (hev 1 (by decide)), vk_R.of (hts0 (.stringRef RX5 53 ",") (by decide +kernel)) (hev 2 (by decide)), vk_R.of (hts0 (.stringRef RX5 55 "pctmh") (by decide +kernel)) (hev 3 (by decide)), vk_R.of (hts0 (.stringRef RX5 57 "01") (by decide +kernel)) (hev 4 (by decide)), vk_R.of (hts0 (.stringRef RX5 74 "abcdef") (by decide +kernel)) (hev 5 (by decide))⟩
  have CC : lC ((dC, dI), aAll a q, cs) (adK, adV) b L xs p s m c := ⟨⟨F, hK, huN, hI⟩, hT, hX, hbl, hnA b hbl, hL⟩
  have ea0 : aAll a q 0 = a 0 := aAll_a (by decide)
  have eq0 : aAll a q 251 = q 0 := aAll_q (j := 0)
  rw [← ea0, ← eq0] at hl
  exact law_loop CC hr hlocks hfr (L + 1) 0 (by omega) (by omega) m0 m0_all H [] ls hu (lv_sub hl [0, 3, 2, 1] rfl)
