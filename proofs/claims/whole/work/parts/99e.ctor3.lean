/-! Ford: what its constructor makes -/
theorem wMom_congr {c : Nat → ClassId} {a a' : Nat → Nat} (h : ∀ j, j < 8 → a j = a' j) : wMom c a = wMom c a' := by
  unfold wMom
  rw [h 0 (by decide), h 1 (by decide), h 2 (by decide), h 3 (by decide), h 4 (by decide), h 5 (by decide), h 6 (by decide), h 7 (by decide)]
def kBl (c : Nat → ClassId) (am : Nat → Nat → Nat) : Nat → va_W
  | 0 => []
  | i + 1 => kBl c am i ++ wMom c (am i)
theorem kBl_congr {c : Nat → ClassId} {am am' : Nat → Nat → Nat} : ∀ i, (∀ p j, p < i → j < 8 → am p j = am' p j) → kBl c am i = kBl c am' i := by
  intro i
  induction i with
  | zero => intro _; rfl
  | succ i ih =>
    intro h
    show kBl c am i ++ wMom c (am i) = kBl c am' i ++ wMom c (am' i)
    rw [ih (fun p j hp hj => h p j (by omega) hj), wMom_congr (fun j hj => h i j (by omega) hj)]
def kFd6 (c : Nat → ClassId) (h0 q1 q2 q3 q4 qp m0 : Nat) (f : Nat → Option Nat) : va_W := [(h0, .inr (1, [.int 0, .ref q1, .ref q2, .ref q3, .int 0, .ref q4, .int 9, .int 4, .ref m0, .ref qp, .int 0])), (q1, .inl (c 0, 6, .inl (fun _ => 0))), (q2, .inl (c 0, 6, .inl (fun _ => 0))), (q3, .inl (c 0, 36, .inl (fun _ => 0))), (q4, .inl (c 0, 6, .inl (fun _ => 0))), (qp, .inl (c 3, 8, .inr (.inr (.inr (.inr f)))))]
def wFord (c : Nat → ClassId) (a : Nat → Nat) : va_W := kFd6 c (a 0) (a 1) (a 2) (a 3) (a 4) (a 5) (a 6) (fun j => some (a (14 + 8 * (j % 8)))) ++ (wMom c (fun j => a (6 + j)) ++ kBl c (fun p j => a (14 + 8 * p + j)) 8)
def kFf (am : Nat → Nat → Nat) (i : Nat) : Nat → Option Nat := fun j => if j < i then some (am j 0) else none
def kFd (c : Nat → ClassId) (h0 q1 q2 q3 q4 qp : Nat) (a6 : Nat → Nat) (am : Nat → Nat → Nat) (i : Nat) : va_W := kFd6 c h0 q1 q2 q3 q4 qp (a6 0) (kFf am i) ++ (wMom c a6 ++ kBl c am i)
theorem kFf_s {am : Nat → Nat → Nat} {i : Nat} {a : Nat → Nat} : va_up (kFf am i) i (some (a 0)) = kFf (va_up am i a) (i + 1) := by
  funext j
  unfold kFf
  by_cases h : j = i
  · subst h
    rw [va_up_s, va_up_s, if_pos (by omega)]
  · rw [va_up_n h, va_up_n h]
    by_cases h2 : j < i
    · rw [if_pos h2, if_pos (by omega)]
    · rw [if_neg h2, if_neg (by omega)]
theorem kFd_s {c : Nat → ClassId} {h0 q1 q2 q3 q4 qp : Nat} {a6 : Nat → Nat} {am : Nat → Nat → Nat} {i : Nat} {a : Nat → Nat} : (kFd c h0 q1 q2 q3 q4 qp a6 am i ++ wMom c a).set 5 (qp, .inl (c 3, 8, .inr (.inr (.inr (.inr (va_up (kFf am i) i (some (a 0)))))))) = kFd c h0 q1 q2 q3 q4 qp a6 (va_up am i a) (i + 1) := by
  have e : (kFd c h0 q1 q2 q3 q4 qp a6 am i ++ wMom c a).set 5 (qp, .inl (c 3, 8, .inr (.inr (.inr (.inr (va_up (kFf am i) i (some (a 0)))))))) = kFd6 c h0 q1 q2 q3 q4 qp (a6 0) (va_up (kFf am i) i (some (a 0))) ++ (wMom c a6 ++ kBl c am i) ++ wMom c a := rfl
  have e2 : kBl c (va_up am i a) (i + 1) = kBl c am i ++ wMom c a := by
    show kBl c (va_up am i a) i ++ wMom c (va_up am i a i) = _
    rw [va_up_s, kBl_congr i (fun p j hp hj => by rw [va_up_n (by omega)])]
  rw [e, kFf_s]
  unfold kFd
  rw [e2, List.append_assoc, List.append_assoc]
theorem kH_refs {G : va_G} {A : Nat → Prop} {ws : va_W} {s : State} {H : Heap} {locs : List Loc} (h : kH G A ws s H locs) (i : Nat) {a n : Nat} {cA : ClassId} {f f' : Nat → Option Nat} (he : ws[i]? = some (a, .inl (cA, n, .inr (.inr (.inr (.inr f)))))) (hf : ∀ j, j < n → f j = f' j) : kH G A (ws.set i (a, .inl (cA, n, .inr (.inr (.inr (.inr f')))))) s H locs := by
  obtain ⟨hP, hD, hS, hA⟩ := h
  refine ⟨fun k q hk => ?_, hD.set he, hS, hA⟩
  by_cases hki : k = i
  · subst hki
    have hl := (List.getElem?_eq_some_iff.mp he).1
    rw [List.getElem?_set_self hl] at hk
    cases hk
    have e1 := hP k _ he
    have e2 : vp_cell cA (n, .inr (.inr (.inr (.inr f)))) = vp_cell cA (n, .inr (.inr (.inr (.inr f')))) := by
      rw [vp_cell_q, vp_cell_q]
      unfold arrV
      congr 2
      funext j
      show va_rf (f j.val) = va_rf (f' j.val)
      rw [hf j.val j.isLt]
    show H[a]? = some (vp_cell cA (n, .inr (.inr (.inr (.inr f')))))
    rw [← e2]
    exact e1
  · rw [List.getElem?_set_ne (Ne.symm hki)] at hk
    exact hP k q hk
def kFa (h0 q1 q2 q3 q4 qp : Nat) (a6 : Nat → Nat) (am : Nat → Nat → Nat) : Nat → Nat := fun k => if k = 0 then h0 else if k = 1 then q1 else if k = 2 then q2 else if k = 3 then q3 else if k = 4 then q4 else if k = 5 then qp else if k < 14 then a6 (k - 6) else am ((k - 14) / 8) ((k - 14) % 8)
theorem kFa_m {h0 q1 q2 q3 q4 qp : Nat} {a6 : Nat → Nat} {am : Nat → Nat → Nat} {j : Nat} (hj : j < 8) : kFa h0 q1 q2 q3 q4 qp a6 am (6 + j) = a6 j := by
  unfold kFa
  rw [if_neg (by omega), if_neg (by omega), if_neg (by omega), if_neg (by omega), if_neg (by omega), if_neg (by omega), if_pos (by omega)]
  congr 1; omega
theorem kFa_p {h0 q1 q2 q3 q4 qp : Nat} {a6 : Nat → Nat} {am : Nat → Nat → Nat} {p j : Nat} (hj : j < 8) : kFa h0 q1 q2 q3 q4 qp a6 am (14 + 8 * p + j) = am p j := by
  unfold kFa
  rw [if_neg (by omega), if_neg (by omega), if_neg (by omega), if_neg (by omega), if_neg (by omega), if_neg (by omega), if_neg (by omega), show (14 + 8 * p + j - 14) / 8 = p by omega, show (14 + 8 * p + j - 14) % 8 = j by omega]
theorem kFd_end {c : Nat → ClassId} {h0 q1 q2 q3 q4 qp : Nat} {a6 : Nat → Nat} {am : Nat → Nat → Nat} : kFd6 c h0 q1 q2 q3 q4 qp (a6 0) (fun j => some (kFa h0 q1 q2 q3 q4 qp a6 am (14 + 8 * (j % 8)))) ++ (wMom c a6 ++ kBl c am 8) = wFord c (kFa h0 q1 q2 q3 q4 qp a6 am) := by
  unfold wFord
  rw [wMom_congr (a := fun j => kFa h0 q1 q2 q3 q4 qp a6 am (6 + j)) (a' := a6) (fun j hj => kFa_m hj), kBl_congr (am := fun p j => kFa h0 q1 q2 q3 q4 qp a6 am (14 + 8 * p + j)) (am' := am) 8 (fun p j _ hj => kFa_p hj)]
  have e6 : kFa h0 q1 q2 q3 q4 qp a6 am 6 = a6 0 := kFa_m (j := 0) (by decide)
  rw [e6]
  rfl
theorem wFord_congr {c : Nat → ClassId} {a a' : Nat → Nat} (h : ∀ j, j < 78 → a j = a' j) : wFord c a = wFord c a' := by
  unfold wFord
  have ef : (fun j => some (a (14 + 8 * (j % 8)))) = fun j => some (a' (14 + 8 * (j % 8))) := funext fun j => by rw [h _ (by omega)]
  rw [h 0 (by decide), h 1 (by decide), h 2 (by decide), h 3 (by decide), h 4 (by decide), h 5 (by decide), h 6 (by decide), ef, wMom_congr (a := fun j => a (6 + j)) (a' := fun j => a' (6 + j)) (fun j hj => h _ (by omega)), kBl_congr (am := fun p j => a (14 + 8 * p + j)) (am' := fun p j => a' (14 + 8 * p + j)) 8 (fun p j hp hj => h _ (by omega))]
theorem perm1 {α : Type} (A B : List α) (x : α) : (A ++ B ++ [x]).Perm (A ++ [x] ++ B) := by
  rw [List.append_assoc, List.append_assoc]
  exact List.Perm.append_left A List.perm_append_comm
set_option maxHeartbeats 4000000 in
set_option maxRecDepth 100000 in
theorem kl_X1_init {l : Launch} {G : va_G} {c : Nat → ClassId} {p : Program} {e : Env} {s : State} {m : MethodId} {below : List Frame} {meth : Method} {c0 : Code} {A : Nat → Prop} {args : Array Value} (C : kF G c p s m args c0 cX1_init 2 wsX1_init RX1) (hr : meth.sig.returnType = none) (hlocks : meth.locks = false) (h0 q1 q2 q3 q4 qp : Nat) (a6 : Nat → Nat) : ∀ (k i : Nat), i + k = 8 → ∀ (am : Nat → Nat → Nat) (H : Heap) (locs : List Loc) (ls : Array Slot), kH G A (kFd c h0 q1 q2 q3 q4 qp a6 am i) s H locs → lv_has ls 2 [(1, .int (nI i)), (0, .ref h0)] →
    W p l e ({ frames := 3, cells := 77, slots := 638, locals := 52 } : Room) s m args below meth c0 H locs (13 + 8 * i) (126 + 64 * i) (MQ below (va_Qv (fun a : Nat → Nat => a 0 = h0) (kQ G (wFord c) A) A) args s 77 638 A) (F0 m 69 ls []) := by
  have hx := C.1.1
  have hb := C.1.2.1
  have hts := C.1.2.2.2.2
  have hin : ∀ w ∈ u_ws RX1 TX1 11, w ∈ wsX1_init := by decide +kernel
  intro k
  induction k with
  | zero =>
    intro i hik am H locs ls h hl
    have hi : i = 8 := by omega
    subst hi
    refine lv_iload_n hx hb dX1_init_69 rfl (lv_at hl 0 rfl) ?_
    refine lv_bipush (v := 8) hx hb dX1_init_70 (by decide) ?_
    refine lv_icmp_ge (tgt := 94) hx hb dX1_init_72 (by decide) (fun _ => ?_) (fun z => absurd (by decide) z)
    have h := kH_refs (f' := fun j => some (kFa h0 q1 q2 q3 q4 qp a6 am (14 + 8 * (j % 8)))) h 5 rfl (fun j hj => by
      unfold kFf
      rw [if_pos hj, Nat.mod_eq_of_lt hj]
      exact congrArg some (kFa_p (p := j) (j := 0) (by decide)).symm)
    have h : kH G A (kFd6 c h0 q1 q2 q3 q4 qp (a6 0) (fun j => some (kFa h0 q1 q2 q3 q4 qp a6 am (14 + 8 * (j % 8)))) ++ (wMom c a6 ++ kBl c am 8)) s H locs := h
    rw [kFd_end] at h
    exact kr_ret C h hr hlocks (kFa h0 q1 q2 q3 q4 qp a6 am) rfl rfl dX1_init_94
  | succ k ih =>
    intro i hik am H locs ls h hl
    refine lv_iload_n hx hb dX1_init_69 rfl (lv_at hl 0 rfl) ?_
    refine lv_bipush (v := 8) hx hb dX1_init_70 (by decide) ?_
    refine lv_icmp_ge (tgt := 94) hx hb dX1_init_72 (by decide) (fun z => ?_) (fun _ => ?_)
    · have z : 8 ≤ i := (nI_leI (a := 8) (b := i) (by omega) (by omega)).mp z
      omega
    · refine lv_aload_n hx hb dX1_init_75 rfl (lv_at hl 1 rfl) ?_
      refine kr_get C h 0 rfl (Cn := RX1) (T := TX1) (N := 11) rfl hin 9 (by decide) (by decide +kernel) rfl dX1_init_76 ?_
      refine lv_iload_n hx hb dX1_init_79 rfl (lv_at hl 0 rfl) ?_
      refine kr_new C h (Cn := RX3) (T := TX3) (N := 6) (ci := 3) rfl (by decide +kernel) tyX3 tyX3_ok (by decide +kernel) (by decide +kernel) (by decide +kernel) (fs := [.null, .null, .null, .null, .int 0, .int 0]) (by decide +kernel) (by show 13 + 8 * i + 1 ≤ 77; omega) (by show 126 + 64 * i + 6 ≤ 638; omega) dX1_init_80 (fun q H h => ?_)
      refine lv_dup hx hb dX1_init_83 rfl ?_
      refine kr_callIN C h (As := []) (rest := [.ref q, .int (nI i), .ref qp]) (k_X3_init l G c) (host := RX6) ⟨va_cnB 0 hts gX1_init_X3_init_n33 rfl rfl rfl C.2.2.1 (hts (.initialized RX3) (by decide +kernel)) (by decide +kernel) ⟨Nat.le_of_ble_eq_true rfl, Nat.le_of_ble_eq_true rfl⟩, rfl, hts (.instanceMethod yX3_init) (by decide +kernel)⟩ rfl hl.1 rfl (Nat.le_of_ble_eq_true rfl) dX1_init_84 ⟨by show 13 + 8 * i + 1 + 7 ≤ 77; omega, by show 126 + 64 * i + 6 + 58 ≤ 638; omega⟩ (fun a H locs ea h => ?_)
      rw [← ea]
      refine kr_ast C h 5 3 (RX3, TX3, 6) (f := kFf am i) (n := 8) rfl rfl (kFd c h0 q1 q2 q3 q4 qp a6 am i).length 3 (vs := [.ref (a 1), .ref (a 2), .ref (a 3), .ref (a 4), .int 0, .int 1]) (by rw [List.getElem?_append_right (Nat.le_refl _), Nat.sub_self]; rfl) rfl i (by omega) (by decide) rfl dX1_init_87 (fun H locs h => ?_)
      rw [kFd_s] at h
      refine lv_iinc (v := nI (i + 1)) (lv' := [(1, .int (nI (i + 1))), (0, .ref h0)]) hx hb dX1_init_88 hl (k := 0) rfl (nI_add i 1) (by decide) rfl (fun ls hl => ?_)
      refine lv_goto (tgt := 69) hx hb dX1_init_91 (by decide) ?_
      have key := ih (i + 1) (by omega) (va_up am i a) H locs ls h hl
      rw [show 13 + 8 * (i + 1) = 13 + 8 * i + 1 + 7 by omega, show 126 + 64 * (i + 1) = 126 + 64 * i + 6 + 58 by omega] at key
      exact key
set_option maxHeartbeats 4000000 in
set_option maxRecDepth 100000 in
theorem k_X1_init (l : Launch) (G : va_G) (c : Nat → ClassId) : kM l G c yX1_init wsX1_init ({ frames := 3, cells := 77, slots := 638, locals := 52 }) 77 638 [] (.inr (1, [.int 0, .null, .null, .null, .int 0, .null, .int 0, .int 0, .null, .null, .int 0])) (wFord c) := by
  refine k_start (cc := cX1_init) (maxL := 2) (by decide +kernel) rfl rfl (fun _ => Nat.le_of_ble_eq_true rfl) ?_
  intro h0 p e s m below meth c0 A hAe C hr hlocks hin2 h ls hl
  have hx := C.1.1
  have hb := C.1.2.1
  have hts := C.1.2.2.2.2
  have hin : ∀ w ∈ u_ws RX1 TX1 11, w ∈ wsX1_init := by decide +kernel
  refine lv_aload_n hx hb dX1_init_0 rfl (lv_at hl 0 rfl) ?_
  refine kr_objInit C (by decide +kernel) (by decide +kernel) (by decide +kernel) hl.1 dX1_init_1 (by decide) (by decide) ?_
  refine lv_aload_n hx hb dX1_init_4 rfl (lv_at hl 0 rfl) ?_
  refine lv_bipush (v := 6) hx hb dX1_init_5 (by decide) ?_
  refine kr_newi C h (by decide +kernel) 6 rfl (by decide) (Nat.le_of_ble_eq_true rfl) (Nat.le_of_ble_eq_true rfl) dX1_init_7 (fun q1 H h => ?_)
  have h : kH G A ([(h0, .inr (1, [.int 0, .null, .null, .null, .int 0, .null, .int 0, .int 0, .null, .null, .int 0])), (q1, .inl (c 0, 6, .inl (fun _ => 0)))]) s H _ := h
  refine W.widen (k := 1) (n := 6) (Nat.le_of_ble_eq_true rfl) (Nat.le_of_ble_eq_true rfl) ?_
  refine kr_putF C h hin2 0 rfl (T := TX1) (N := 11) rfl hin tyX1 tyX1_ok nmX1 1 (by decide) (by decide +kernel) rfl (by decide +kernel) (v := .ref q1) rfl rfl (Nat.le_of_ble_eq_true rfl) dX1_init_9 (fun H locs h => ?_)
  have h : kH G A ([(h0, .inr (1, [.int 0, .ref q1, .null, .null, .int 0, .null, .int 0, .int 0, .null, .null, .int 0])), (q1, .inl (c 0, 6, .inl (fun _ => 0)))]) s H _ := h
  refine lv_aload_n hx hb dX1_init_12 rfl (lv_at hl 0 rfl) ?_
  refine lv_bipush (v := 6) hx hb dX1_init_13 (by decide) ?_
  refine kr_newi C h (by decide +kernel) 6 rfl (by decide) (Nat.le_of_ble_eq_true rfl) (Nat.le_of_ble_eq_true rfl) dX1_init_15 (fun q2 H h => ?_)
  have h : kH G A ([(h0, .inr (1, [.int 0, .ref q1, .null, .null, .int 0, .null, .int 0, .int 0, .null, .null, .int 0])), (q1, .inl (c 0, 6, .inl (fun _ => 0))), (q2, .inl (c 0, 6, .inl (fun _ => 0)))]) s H _ := h
  refine W.widen (k := 2) (n := 12) (Nat.le_of_ble_eq_true rfl) (Nat.le_of_ble_eq_true rfl) ?_
  refine kr_putF C h hin2 0 rfl (T := TX1) (N := 11) rfl hin tyX1 tyX1_ok nmX1 2 (by decide) (by decide +kernel) rfl (by decide +kernel) (v := .ref q2) rfl rfl (Nat.le_of_ble_eq_true rfl) dX1_init_17 (fun H locs h => ?_)
  have h : kH G A ([(h0, .inr (1, [.int 0, .ref q1, .ref q2, .null, .int 0, .null, .int 0, .int 0, .null, .null, .int 0])), (q1, .inl (c 0, 6, .inl (fun _ => 0))), (q2, .inl (c 0, 6, .inl (fun _ => 0)))]) s H _ := h
  refine lv_aload_n hx hb dX1_init_20 rfl (lv_at hl 0 rfl) ?_
  refine lv_bipush (v := 36) hx hb dX1_init_21 (by decide) ?_
  refine kr_newi C h (by decide +kernel) 36 rfl (by decide) (Nat.le_of_ble_eq_true rfl) (Nat.le_of_ble_eq_true rfl) dX1_init_23 (fun q3 H h => ?_)
  have h : kH G A ([(h0, .inr (1, [.int 0, .ref q1, .ref q2, .null, .int 0, .null, .int 0, .int 0, .null, .null, .int 0])), (q1, .inl (c 0, 6, .inl (fun _ => 0))), (q2, .inl (c 0, 6, .inl (fun _ => 0))), (q3, .inl (c 0, 36, .inl (fun _ => 0)))]) s H _ := h
  refine W.widen (k := 3) (n := 48) (Nat.le_of_ble_eq_true rfl) (Nat.le_of_ble_eq_true rfl) ?_
  refine kr_putF C h hin2 0 rfl (T := TX1) (N := 11) rfl hin tyX1 tyX1_ok nmX1 3 (by decide) (by decide +kernel) rfl (by decide +kernel) (v := .ref q3) rfl rfl (Nat.le_of_ble_eq_true rfl) dX1_init_25 (fun H locs h => ?_)
  have h : kH G A ([(h0, .inr (1, [.int 0, .ref q1, .ref q2, .ref q3, .int 0, .null, .int 0, .int 0, .null, .null, .int 0])), (q1, .inl (c 0, 6, .inl (fun _ => 0))), (q2, .inl (c 0, 6, .inl (fun _ => 0))), (q3, .inl (c 0, 36, .inl (fun _ => 0)))]) s H _ := h
  refine lv_aload_n hx hb dX1_init_28 rfl (lv_at hl 0 rfl) ?_
  refine lv_bipush (v := 6) hx hb dX1_init_29 (by decide) ?_
  refine kr_newi C h (by decide +kernel) 6 rfl (by decide) (Nat.le_of_ble_eq_true rfl) (Nat.le_of_ble_eq_true rfl) dX1_init_31 (fun q4 H h => ?_)
  have h : kH G A ([(h0, .inr (1, [.int 0, .ref q1, .ref q2, .ref q3, .int 0, .null, .int 0, .int 0, .null, .null, .int 0])), (q1, .inl (c 0, 6, .inl (fun _ => 0))), (q2, .inl (c 0, 6, .inl (fun _ => 0))), (q3, .inl (c 0, 36, .inl (fun _ => 0))), (q4, .inl (c 0, 6, .inl (fun _ => 0)))]) s H _ := h
  refine W.widen (k := 4) (n := 54) (Nat.le_of_ble_eq_true rfl) (Nat.le_of_ble_eq_true rfl) ?_
  refine kr_putF C h hin2 0 rfl (T := TX1) (N := 11) rfl hin tyX1 tyX1_ok nmX1 5 (by decide) (by decide +kernel) rfl (by decide +kernel) (v := .ref q4) rfl rfl (Nat.le_of_ble_eq_true rfl) dX1_init_33 (fun H locs h => ?_)
  have h : kH G A ([(h0, .inr (1, [.int 0, .ref q1, .ref q2, .ref q3, .int 0, .ref q4, .int 0, .int 0, .null, .null, .int 0])), (q1, .inl (c 0, 6, .inl (fun _ => 0))), (q2, .inl (c 0, 6, .inl (fun _ => 0))), (q3, .inl (c 0, 36, .inl (fun _ => 0))), (q4, .inl (c 0, 6, .inl (fun _ => 0)))]) s H _ := h
  refine lv_aload_n hx hb dX1_init_36 rfl (lv_at hl 0 rfl) ?_
  refine lv_bipush (v := 9) hx hb dX1_init_37 (by decide) ?_
  refine kr_put C h 0 rfl (Cn := RX1) (T := TX1) (N := 11) rfl hin tyX1 tyX1_ok nmX1 6 (by decide) (by decide +kernel) rfl (v := .int 9) rfl rfl (Nat.le_of_ble_eq_true rfl) dX1_init_39 (fun H locs h => ?_)
  have h : kH G A ([(h0, .inr (1, [.int 0, .ref q1, .ref q2, .ref q3, .int 0, .ref q4, .int 9, .int 0, .null, .null, .int 0])), (q1, .inl (c 0, 6, .inl (fun _ => 0))), (q2, .inl (c 0, 6, .inl (fun _ => 0))), (q3, .inl (c 0, 36, .inl (fun _ => 0))), (q4, .inl (c 0, 6, .inl (fun _ => 0)))]) s H _ := h
  refine lv_aload_n hx hb dX1_init_42 rfl (lv_at hl 0 rfl) ?_
  refine lv_iconst (v := 4) hx hb dX1_init_43 (by decide) ?_
  refine kr_put C h 0 rfl (Cn := RX1) (T := TX1) (N := 11) rfl hin tyX1 tyX1_ok nmX1 7 (by decide) (by decide +kernel) rfl (v := .int 4) rfl rfl (Nat.le_of_ble_eq_true rfl) dX1_init_44 (fun H locs h => ?_)
  have h : kH G A ([(h0, .inr (1, [.int 0, .ref q1, .ref q2, .ref q3, .int 0, .ref q4, .int 9, .int 4, .null, .null, .int 0])), (q1, .inl (c 0, 6, .inl (fun _ => 0))), (q2, .inl (c 0, 6, .inl (fun _ => 0))), (q3, .inl (c 0, 36, .inl (fun _ => 0))), (q4, .inl (c 0, 6, .inl (fun _ => 0)))]) s H _ := h
  refine lv_aload_n hx hb dX1_init_47 rfl (lv_at hl 0 rfl) ?_
  refine kr_new C h (Cn := RX3) (T := TX3) (N := 6) (ci := 3) rfl (by decide +kernel) tyX3 tyX3_ok (by decide +kernel) (by decide +kernel) (by decide +kernel) (fs := [.null, .null, .null, .null, .int 0, .int 0]) (by decide +kernel) (Nat.le_of_ble_eq_true rfl) (Nat.le_of_ble_eq_true rfl) dX1_init_48 (fun q6 H h => ?_)
  refine W.widen (k := 5) (n := 60) (Nat.le_of_ble_eq_true rfl) (Nat.le_of_ble_eq_true rfl) ?_
  refine lv_dup hx hb dX1_init_51 rfl ?_
  have h : kH G A ([(h0, .inr (1, [.int 0, .ref q1, .ref q2, .ref q3, .int 0, .ref q4, .int 9, .int 4, .null, .null, .int 0])), (q1, .inl (c 0, 6, .inl (fun _ => 0))), (q2, .inl (c 0, 6, .inl (fun _ => 0))), (q3, .inl (c 0, 36, .inl (fun _ => 0))), (q4, .inl (c 0, 6, .inl (fun _ => 0)))] ++ [(q6, .inr (3, [.null, .null, .null, .null, .int 0, .int 0]))]) s H _ := h
  refine kr_callIN C h (As := []) (rest := [.ref q6, .ref h0]) (k_X3_init l G c) (host := RX6) ⟨va_cnB 0 hts gX1_init_X3_init_n33 rfl rfl rfl C.2.2.1 (hts (.initialized RX3) (by decide +kernel)) (by decide +kernel) ⟨Nat.le_of_ble_eq_true rfl, Nat.le_of_ble_eq_true rfl⟩, rfl, hts (.instanceMethod yX3_init) (by decide +kernel)⟩ rfl hl.1 rfl (Nat.le_of_ble_eq_true rfl) dX1_init_52 ⟨Nat.le_of_ble_eq_true rfl, Nat.le_of_ble_eq_true rfl⟩ (fun a6 H locs ea6 h => ?_)
  refine W.widen (k := 12) (n := 118) (Nat.le_of_ble_eq_true rfl) (Nat.le_of_ble_eq_true rfl) ?_
  rw [← ea6]
  have h : kH G A ([(h0, .inr (1, [.int 0, .ref q1, .ref q2, .ref q3, .int 0, .ref q4, .int 9, .int 4, .null, .null, .int 0])), (q1, .inl (c 0, 6, .inl (fun _ => 0))), (q2, .inl (c 0, 6, .inl (fun _ => 0))), (q3, .inl (c 0, 36, .inl (fun _ => 0))), (q4, .inl (c 0, 6, .inl (fun _ => 0)))] ++ wMom c a6) s H _ := h
  refine kr_putF C h hin2 0 rfl (T := TX1) (N := 11) rfl hin tyX1 tyX1_ok nmX1 8 (by decide) (by decide +kernel) rfl (by decide +kernel) (v := .ref (a6 0)) rfl rfl (Nat.le_of_ble_eq_true rfl) dX1_init_55 (fun H locs h => ?_)
  have h : kH G A ([(h0, .inr (1, [.int 0, .ref q1, .ref q2, .ref q3, .int 0, .ref q4, .int 9, .int 4, .ref (a6 0), .null, .int 0])), (q1, .inl (c 0, 6, .inl (fun _ => 0))), (q2, .inl (c 0, 6, .inl (fun _ => 0))), (q3, .inl (c 0, 36, .inl (fun _ => 0))), (q4, .inl (c 0, 6, .inl (fun _ => 0)))] ++ wMom c a6) s H _ := h
  refine lv_aload_n hx hb dX1_init_58 rfl (lv_at hl 0 rfl) ?_
  refine lv_bipush (v := 8) hx hb dX1_init_59 (by decide) ?_
  refine kr_newq C h 3 rfl C.2.2.2.2.2.2.1 (by decide +kernel) 8 rfl (by decide) (Nat.le_of_ble_eq_true rfl) (Nat.le_of_ble_eq_true rfl) dX1_init_61 (fun qp H h => ?_)
  refine W.widen (k := 13) (n := 126) (Nat.le_of_ble_eq_true rfl) (Nat.le_of_ble_eq_true rfl) ?_
  have h := h.perm (perm1 _ _ _)
  have h : kH G A ([(h0, .inr (1, [.int 0, .ref q1, .ref q2, .ref q3, .int 0, .ref q4, .int 9, .int 4, .ref (a6 0), .null, .int 0])), (q1, .inl (c 0, 6, .inl (fun _ => 0))), (q2, .inl (c 0, 6, .inl (fun _ => 0))), (q3, .inl (c 0, 36, .inl (fun _ => 0))), (q4, .inl (c 0, 6, .inl (fun _ => 0))), (qp, .inl (c 3, 8, .inr (.inr (.inr (.inr (fun _ => none))))))] ++ wMom c a6) s H _ := h
  refine kr_putF C h hin2 0 rfl (T := TX1) (N := 11) rfl hin tyX1 tyX1_ok nmX1 9 (by decide) (by decide +kernel) rfl (by decide +kernel) (v := .ref qp) rfl rfl (Nat.le_of_ble_eq_true rfl) dX1_init_64 (fun H locs h => ?_)
  have h : kH G A ([(h0, .inr (1, [.int 0, .ref q1, .ref q2, .ref q3, .int 0, .ref q4, .int 9, .int 4, .ref (a6 0), .ref qp, .int 0])), (q1, .inl (c 0, 6, .inl (fun _ => 0))), (q2, .inl (c 0, 6, .inl (fun _ => 0))), (q3, .inl (c 0, 36, .inl (fun _ => 0))), (q4, .inl (c 0, 6, .inl (fun _ => 0))), (qp, .inl (c 3, 8, .inr (.inr (.inr (.inr (fun _ => none))))))] ++ wMom c a6) s H _ := h
  have h : kH G A (kFd c h0 q1 q2 q3 q4 qp a6 (fun _ _ => 0) 0) s H locs := by
    unfold kFd kBl kFf
    rw [List.append_nil]
    exact h
  refine lv_iconst (v := 0) hx hb dX1_init_67 (by decide) ?_
  refine lv_istore_n (lv' := [(1, .int 0), (0, .ref h0)]) hx hb dX1_init_68 rfl hl (by decide) rfl (fun ls hl => ?_)
  exact kl_X1_init C hr hlocks h0 q1 q2 q3 q4 qp a6 8 0 rfl _ H _ ls h hl
