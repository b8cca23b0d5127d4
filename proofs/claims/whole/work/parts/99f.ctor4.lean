/-! Tape, FordWord -/
def wTape (c : Nat → ClassId) (a : Nat → Nat) : va_W := [(a 0, .inr (5, [.ref (a 1), .int 0, .int 0, .ref (a 2)])), (a 1, .inl (c 2, 90, .inl (fun _ => 0)))] ++ wFord c (fun j => a (2 + j))
def kTa (h0 q1 : Nat) (a2 : Nat → Nat) : Nat → Nat := fun k => if k = 0 then h0 else if k = 1 then q1 else a2 (k - 2)
theorem kTa_e {h0 q1 : Nat} {a2 : Nat → Nat} : (fun j => kTa h0 q1 a2 (2 + j)) = a2 := by
  funext j
  unfold kTa
  rw [if_neg (by omega), if_neg (by omega)]
  congr 1; omega
def kSh (c : Nat → ClassId) (am : Nat → Nat → Nat) : Nat → va_W
  | 0 => []
  | i + 1 => kSh c am i ++ wSheet c (am i)
theorem kSh_congr {c : Nat → ClassId} {am am' : Nat → Nat → Nat} : ∀ i, (∀ p j, p < i → j < 2 → am p j = am' p j) → kSh c am i = kSh c am' i := by
  intro i
  induction i with
  | zero => intro _; rfl
  | succ i ih =>
    intro h
    show kSh c am i ++ wSheet c (am i) = kSh c am' i ++ wSheet c (am' i)
    rw [ih (fun p j hp hj => h p j (by omega) hj)]
    unfold wSheet
    rw [h i 0 (by omega) (by decide), h i 1 (by omega) (by decide)]
def kFw2 (c : Nat → ClassId) (h0 qs f1 f2 fo tp : Nat) (f : Nat → Option Nat) : va_W := [(h0, .inr (6, [.ref f1, .ref f2, .int 0, .ref fo, .ref tp, .ref qs])), (qs, .inl (c 4, 4, .inr (.inr (.inr (.inr f)))))]
def kFw (c : Nat → ClassId) (h0 qs f1 f2 fo tp : Nat) (rs : va_W) (am : Nat → Nat → Nat) (i : Nat) : va_W := kFw2 c h0 qs f1 f2 fo tp (kFf am i) ++ (rs ++ kSh c am i)
theorem kFw_s {c : Nat → ClassId} {h0 qs f1 f2 fo tp : Nat} {rs : va_W} {am : Nat → Nat → Nat} {i : Nat} {a : Nat → Nat} : (kFw c h0 qs f1 f2 fo tp rs am i ++ wSheet c a).set 1 (qs, .inl (c 4, 4, .inr (.inr (.inr (.inr (va_up (kFf am i) i (some (a 0)))))))) = kFw c h0 qs f1 f2 fo tp rs (va_up am i a) (i + 1) := by
  have e : (kFw c h0 qs f1 f2 fo tp rs am i ++ wSheet c a).set 1 (qs, .inl (c 4, 4, .inr (.inr (.inr (.inr (va_up (kFf am i) i (some (a 0)))))))) = kFw2 c h0 qs f1 f2 fo tp (va_up (kFf am i) i (some (a 0))) ++ (rs ++ kSh c am i) ++ wSheet c a := rfl
  have e2 : kSh c (va_up am i a) (i + 1) = kSh c am i ++ wSheet c a := by
    show kSh c (va_up am i a) i ++ wSheet c (va_up am i a i) = _
    rw [va_up_s, kSh_congr i (fun p j hp hj => by rw [va_up_n (by omega)])]
  rw [e, kFf_s]
  unfold kFw
  rw [e2, List.append_assoc, List.append_assoc]
def wFW (c : Nat → ClassId) (a : Nat → Nat) : va_W := kFw2 c (a 0) (a 242) (a 1) (a 79) (a 235) (a 240) (fun j => some (a (243 + 2 * j))) ++ ((((wFord c (fun j => a (1 + j)) ++ wFord c (fun j => a (79 + j))) ++ wFore c (a 1) (fun j => a (235 + j))) ++ ([(a 240, .inr (5, [.ref (a 241), .int 0, .int 0, .ref (a 157)])), (a 241, .inl (c 2, 90, .inl (fun _ => 0)))] ++ wFord c (fun j => a (157 + j)))) ++ kSh c (fun p j => a (243 + 2 * p + j)) 4)
def kWa (h0 qs : Nat) (f1 f2 fo tp : Nat → Nat) (am : Nat → Nat → Nat) : Nat → Nat := fun k => if k = 0 then h0 else if k < 79 then f1 (k - 1) else if k < 157 then f2 (k - 79) else if k < 235 then tp (k - 157 + 2) else if k < 240 then fo (k - 235) else if k < 242 then tp (k - 240) else if k = 242 then qs else am ((k - 243) / 2) ((k - 243) % 2)
section KWA
variable {h0 qs : Nat} {f1 f2 fo tp : Nat → Nat} {am : Nat → Nat → Nat}
theorem kWa_1 {j : Nat} (h : j < 78) : kWa h0 qs f1 f2 fo tp am (1 + j) = f1 j := by
  unfold kWa
  rw [if_neg (by omega), if_pos (by omega)]
  congr 1; omega
theorem kWa_2 {j : Nat} (h : j < 78) : kWa h0 qs f1 f2 fo tp am (79 + j) = f2 j := by
  unfold kWa
  rw [if_neg (by omega), if_neg (by omega), if_pos (by omega)]
  congr 1; omega
theorem kWa_3 {j : Nat} (h : j < 78) : kWa h0 qs f1 f2 fo tp am (157 + j) = tp (2 + j) := by
  unfold kWa
  rw [if_neg (by omega), if_neg (by omega), if_neg (by omega), if_pos (by omega), show 157 + j - 157 + 2 = 2 + j by omega]
theorem kWa_4 {j : Nat} (h : j < 5) : kWa h0 qs f1 f2 fo tp am (235 + j) = fo j := by
  unfold kWa
  rw [if_neg (by omega), if_neg (by omega), if_neg (by omega), if_neg (by omega), if_pos (by omega), show 235 + j - 235 = j by omega]
theorem kWa_5 {j : Nat} (h : j < 2) : kWa h0 qs f1 f2 fo tp am (240 + j) = tp j := by
  unfold kWa
  rw [if_neg (by omega), if_neg (by omega), if_neg (by omega), if_neg (by omega), if_neg (by omega), if_pos (by omega), show 240 + j - 240 = j by omega]
theorem kWa_6 {p j : Nat} (h : j < 2) : kWa h0 qs f1 f2 fo tp am (243 + 2 * p + j) = am p j := by
  unfold kWa
  rw [if_neg (by omega), if_neg (by omega), if_neg (by omega), if_neg (by omega), if_neg (by omega), if_neg (by omega), if_neg (by omega), show (243 + 2 * p + j - 243) / 2 = p by omega, show (243 + 2 * p + j - 243) % 2 = j by omega]
theorem kFw_end {c : Nat → ClassId} : kFw2 c h0 qs (f1 0) (f2 0) (fo 0) (tp 0) (fun j => some (kWa h0 qs f1 f2 fo tp am (243 + 2 * j))) ++ ((((wFord c f1 ++ wFord c f2) ++ wFore c (f1 0) fo) ++ wTape c tp) ++ kSh c am 4) = wFW c (kWa h0 qs f1 f2 fo tp am) := by
  unfold wFW wTape
  have g0 : kWa h0 qs f1 f2 fo tp am 1 = f1 0 := kWa_1 (j := 0) (by decide)
  have g1 : kWa h0 qs f1 f2 fo tp am 79 = f2 0 := kWa_2 (j := 0) (by decide)
  have g2 : kWa h0 qs f1 f2 fo tp am 235 = fo 0 := kWa_4 (j := 0) (by decide)
  have g3 : kWa h0 qs f1 f2 fo tp am 240 = tp 0 := kWa_5 (j := 0) (by decide)
  have g4 : kWa h0 qs f1 f2 fo tp am 241 = tp 1 := kWa_5 (j := 1) (by decide)
  have g5 : kWa h0 qs f1 f2 fo tp am 157 = tp 2 := kWa_3 (j := 0) (by decide)
  have g6 : wFore c (f1 0) (fun j => kWa h0 qs f1 f2 fo tp am (235 + j)) = wFore c (f1 0) fo := by
    unfold wFore
    dsimp only
    rw [kWa_4 (j := 0) (by decide), kWa_4 (j := 1) (by decide), kWa_4 (j := 2) (by decide), kWa_4 (j := 3) (by decide), kWa_4 (j := 4) (by decide)]
  rw [wFord_congr (a := fun j => kWa h0 qs f1 f2 fo tp am (1 + j)) (a' := f1) (fun j hj => kWa_1 hj), wFord_congr (a := fun j => kWa h0 qs f1 f2 fo tp am (79 + j)) (a' := f2) (fun j hj => kWa_2 hj), wFord_congr (a := fun j => kWa h0 qs f1 f2 fo tp am (157 + j)) (a' := fun j => tp (2 + j)) (fun j hj => kWa_3 hj), kSh_congr (am := fun p j => kWa h0 qs f1 f2 fo tp am (243 + 2 * p + j)) (am' := am) 4 (fun p j _ hj => kWa_6 hj), g0, g1, g2, g3, g4, g5, g6]
  rfl
end KWA
theorem perm2 {α : Type} (x : α) (B : List α) (y : α) : ([x] ++ B ++ [y]).Perm ([x, y] ++ (B ++ [])) := by
  rw [List.append_nil]
  exact perm1 [x] B y
set_option maxHeartbeats 4000000 in
set_option maxRecDepth 100000 in
theorem k_X5_init (l : Launch) (G : va_G) (c : Nat → ClassId) : kM l G c yX5_init wsX5_init ({ frames := 4, cells := 79, slots := 739, locals := 73 }) 79 739 [] (.inr (5, [.null, .int 0, .int 0, .null])) (wTape c) := by
  refine k_start (cc := cX5_init) (maxL := 1) (by decide +kernel) rfl rfl (fun _ => Nat.le_of_ble_eq_true rfl) ?_
  intro h0 p e s m below meth c0 A hAe C hr hlocks hin2 h ls hl
  have hx := C.1.1
  have hb := C.1.2.1
  have hts := C.1.2.2.2.2
  have hin : ∀ w ∈ u_ws RX5 TX5 4, w ∈ wsX5_init := by decide +kernel
  refine lv_aload_n hx hb dX5_init_0 rfl (lv_at hl 0 rfl) ?_
  refine kr_objInit C (by decide +kernel) (by decide +kernel) (by decide +kernel) hl.1 dX5_init_1 (by decide) (by decide) ?_
  refine lv_aload_n hx hb dX5_init_4 rfl (lv_at hl 0 rfl) ?_
  refine lv_bipush (v := 90) hx hb dX5_init_5 (by decide) ?_
  refine kr_newc C h (by decide +kernel) 90 rfl (by decide) (Nat.le_of_ble_eq_true rfl) (Nat.le_of_ble_eq_true rfl) dX5_init_7 (fun q1 H h => ?_)
  have h : kH G A ([(h0, .inr (5, [.null, .int 0, .int 0, .null])), (q1, .inl (c 2, 90, .inl (fun _ => 0)))]) s H _ := h
  refine W.widen (k := 1) (n := 90) (Nat.le_of_ble_eq_true rfl) (Nat.le_of_ble_eq_true rfl) ?_
  refine kr_putF C h hin2 0 rfl (T := TX5) (N := 4) rfl hin tyX5 tyX5_ok nmX5 0 (by decide) (by decide +kernel) rfl (by decide +kernel) (v := .ref q1) rfl rfl (Nat.le_of_ble_eq_true rfl) dX5_init_9 (fun H locs h => ?_)
  have h : kH G A ([(h0, .inr (5, [.ref q1, .int 0, .int 0, .null])), (q1, .inl (c 2, 90, .inl (fun _ => 0)))]) s H _ := h
  refine lv_aload_n hx hb dX5_init_12 rfl (lv_at hl 0 rfl) ?_
  refine kr_new C h (Cn := RX1) (T := TX1) (N := 11) (ci := 1) rfl (by decide +kernel) tyX1 tyX1_ok (by decide +kernel) (by decide +kernel) (by decide +kernel) (fs := [.int 0, .null, .null, .null, .int 0, .null, .int 0, .int 0, .null, .null, .int 0]) (by decide +kernel) (Nat.le_of_ble_eq_true rfl) (Nat.le_of_ble_eq_true rfl) dX5_init_13 (fun q2 H h => ?_)
  refine W.widen (k := 2) (n := 101) (Nat.le_of_ble_eq_true rfl) (Nat.le_of_ble_eq_true rfl) ?_
  refine lv_dup hx hb dX5_init_16 rfl ?_
  have h : kH G A ([(h0, .inr (5, [.ref q1, .int 0, .int 0, .null])), (q1, .inl (c 2, 90, .inl (fun _ => 0)))] ++ [(q2, .inr (1, [.int 0, .null, .null, .null, .int 0, .null, .int 0, .int 0, .null, .null, .int 0]))]) s H _ := h
  refine kr_callI C h (As := []) (rest := [.ref q2, .ref h0]) (k_X1_init l G c) (cwI 0 hts gX5_init_X1_init rfl rfl rfl (hts (.initialized RX1) (by decide +kernel)) (hts (.methodLink RX5 17 yX1_init) (by decide +kernel)) (hts (.instanceMethod yX1_init) (by decide +kernel)) rfl (by decide +kernel) ⟨Nat.le_of_ble_eq_true rfl, Nat.le_of_ble_eq_true rfl⟩) rfl hl.1 rfl (Nat.le_of_ble_eq_true rfl) dX5_init_17 ⟨Nat.le_of_ble_eq_true rfl, Nat.le_of_ble_eq_true rfl⟩ (fun a2 H locs ea2 h => ?_)
  refine W.widen (k := 79) (n := 739) (Nat.le_of_ble_eq_true rfl) (Nat.le_of_ble_eq_true rfl) ?_
  rw [← ea2]
  have h : kH G A ([(h0, .inr (5, [.ref q1, .int 0, .int 0, .null])), (q1, .inl (c 2, 90, .inl (fun _ => 0)))] ++ wFord c a2) s H _ := h
  refine kr_putF C h hin2 0 rfl (T := TX5) (N := 4) rfl hin tyX5 tyX5_ok nmX5 3 (by decide) (by decide +kernel) rfl (by decide +kernel) (v := .ref (a2 0)) rfl rfl (Nat.le_of_ble_eq_true rfl) dX5_init_20 (fun H locs h => ?_)
  have h : kH G A ([(h0, .inr (5, [.ref q1, .int 0, .int 0, .ref (a2 0)])), (q1, .inl (c 2, 90, .inl (fun _ => 0)))] ++ wFord c a2) s H _ := h
  exact kr_ret C h hr hlocks (kTa h0 q1 a2) rfl (by unfold wTape; rw [kTa_e]; rfl) dX5_init_23
set_option maxHeartbeats 4000000 in
set_option maxRecDepth 100000 in
theorem kl_X6_init {l : Launch} {G : va_G} {c : Nat → ClassId} {p : Program} {e : Env} {s : State} {m : MethodId} {below : List Frame} {meth : Method} {c0 : Code} {A : Nat → Prop} {args : Array Value} (C : kF G c p s m args c0 cX6_init 2 wsX6_init RX6) (hr : meth.sig.returnType = none) (hlocks : meth.locks = false) (h0 qs : Nat) (f1 f2 fo tp : Nat → Nat) : ∀ (k i : Nat), i + k = 4 → ∀ (am : Nat → Nat → Nat) (H : Heap) (locs : List Loc) (ls : Array Slot), kH G A (kFw c h0 qs (f1 0) (f2 0) (fo 0) (tp 0) (((wFord c f1 ++ wFord c f2) ++ wFore c (f1 0) fo) ++ wTape c tp) am i) s H locs → lv_has ls 2 [(1, .int (nI i)), (0, .ref h0)] →
    W p l e ({ frames := 5, cells := 250, slots := 2304, locals := 93 } : Room) s m args below meth c0 H locs (242 + 2 * i) (2192 + 28 * i) (MQ below (va_Qv (fun a : Nat → Nat => a 0 = h0) (kQ G (wFW c) A) A) args s 250 2304 A) (F0 m 62 ls []) := by
  have hx := C.1.1
  have hb := C.1.2.1
  have hts := C.1.2.2.2.2
  have hin : ∀ w ∈ u_ws RX6 TX6 6, w ∈ wsX6_init := by decide +kernel
  intro k
  induction k with
  | zero =>
    intro i hik am H locs ls h hl
    have hi : i = 4 := by omega
    subst hi
    refine lv_iload_n hx hb dX6_init_62 rfl (lv_at hl 0 rfl) ?_
    refine lv_iconst (v := 4) hx hb dX6_init_63 (by decide) ?_
    refine lv_icmp_ge (tgt := 86) hx hb dX6_init_64 (by decide) (fun _ => ?_) (fun z => absurd (by decide) z)
    have h := kH_refs (f' := fun j => some (kWa h0 qs f1 f2 fo tp am (243 + 2 * j))) h 1 rfl (fun j hj => by
      unfold kFf
      rw [if_pos hj]
      exact congrArg some (kWa_6 (p := j) (j := 0) (by decide)).symm)
    have h : kH G A (kFw2 c h0 qs (f1 0) (f2 0) (fo 0) (tp 0) (fun j => some (kWa h0 qs f1 f2 fo tp am (243 + 2 * j))) ++ ((((wFord c f1 ++ wFord c f2) ++ wFore c (f1 0) fo) ++ wTape c tp) ++ kSh c am 4)) s H locs := h
    rw [kFw_end] at h
    exact kr_ret C h hr hlocks (kWa h0 qs f1 f2 fo tp am) rfl rfl dX6_init_86
  | succ k ih =>
    intro i hik am H locs ls h hl
    refine lv_iload_n hx hb dX6_init_62 rfl (lv_at hl 0 rfl) ?_
    refine lv_iconst (v := 4) hx hb dX6_init_63 (by decide) ?_
    refine lv_icmp_ge (tgt := 86) hx hb dX6_init_64 (by decide) (fun z => ?_) (fun _ => ?_)
    · have z : 4 ≤ i := (nI_leI (a := 4) (b := i) (by omega) (by omega)).mp z
      omega
    · refine lv_aload_n hx hb dX6_init_67 rfl (lv_at hl 1 rfl) ?_
      refine kr_get C h 0 rfl (Cn := RX6) (T := TX6) (N := 6) rfl hin 5 (by decide) (by decide +kernel) rfl dX6_init_68 ?_
      refine lv_iload_n hx hb dX6_init_71 rfl (lv_at hl 0 rfl) ?_
      refine kr_new C h (Cn := RX4) (T := TX4) (N := 4) (ci := 4) rfl (by decide +kernel) tyX4 tyX4_ok (by decide +kernel) (by decide +kernel) (by decide +kernel) (fs := [.int 0, .int 0, .int 0, .null]) (by decide +kernel) (by show 242 + 2 * i + 1 ≤ 250; omega) (by show 2192 + 28 * i + 4 ≤ 2304; omega) dX6_init_72 (fun q H h => ?_)
      refine lv_dup hx hb dX6_init_75 rfl ?_
      refine kr_callIN C h (As := []) (rest := [.ref q, .int (nI i), .ref qs]) (k_X4_init l G c) (host := RX6) ⟨va_cnB 0 hts gX6_init_X4_init_n41 rfl rfl rfl C.2.2.2.2.2.1 (hts (.initialized RX4) (by decide +kernel)) (by decide +kernel) ⟨Nat.le_of_ble_eq_true rfl, Nat.le_of_ble_eq_true rfl⟩, rfl, hts (.instanceMethod yX4_init) (by decide +kernel)⟩ rfl hl.1 rfl (Nat.le_of_ble_eq_true rfl) dX6_init_76 ⟨by show 242 + 2 * i + 1 + 1 ≤ 250; omega, by show 2192 + 28 * i + 4 + 24 ≤ 2304; omega⟩ (fun a H locs ea h => ?_)
      rw [← ea]
      refine kr_ast C h 1 4 (RX4, TX4, 4) (f := kFf am i) (n := 4) rfl rfl (kFw c h0 qs (f1 0) (f2 0) (fo 0) (tp 0) (((wFord c f1 ++ wFord c f2) ++ wFore c (f1 0) fo) ++ wTape c tp) am i).length 4 (vs := [.int 0, .int 0, .int 0, .ref (a 1)]) (by rw [List.getElem?_append_right (Nat.le_refl _), Nat.sub_self]; rfl) rfl i (by omega) (by decide) rfl dX6_init_79 (fun H locs h => ?_)
      rw [kFw_s] at h
      refine lv_iinc (v := nI (i + 1)) (lv' := [(1, .int (nI (i + 1))), (0, .ref h0)]) hx hb dX6_init_80 hl (k := 0) rfl (nI_add i 1) (by decide) rfl (fun ls hl => ?_)
      refine lv_goto (tgt := 62) hx hb dX6_init_83 (by decide) ?_
      have key := ih (i + 1) (by omega) (va_up am i a) H locs ls h hl
      rw [show 242 + 2 * (i + 1) = 242 + 2 * i + 1 + 1 by omega, show 2192 + 28 * (i + 1) = 2192 + 28 * i + 4 + 24 by omega] at key
      exact key
set_option maxHeartbeats 4000000 in
set_option maxRecDepth 100000 in
theorem k_X6_init (l : Launch) (G : va_G) (c : Nat → ClassId) : kM l G c yX6_init wsX6_init ({ frames := 5, cells := 250, slots := 2304, locals := 93 }) 250 2304 [] (.inr (6, [.null, .null, .int 0, .null, .null, .null])) (wFW c) := by
  refine k_start (cc := cX6_init) (maxL := 2) (by decide +kernel) rfl rfl (fun _ => Nat.le_of_ble_eq_true rfl) ?_
  intro h0 p e s m below meth c0 A hAe C hr hlocks hin2 h ls hl
  have hx := C.1.1
  have hb := C.1.2.1
  have hts := C.1.2.2.2.2
  have hin : ∀ w ∈ u_ws RX6 TX6 6, w ∈ wsX6_init := by decide +kernel
  refine lv_aload_n hx hb dX6_init_0 rfl (lv_at hl 0 rfl) ?_
  refine kr_objInit C (by decide +kernel) (by decide +kernel) (by decide +kernel) hl.1 dX6_init_1 (by decide) (by decide) ?_
  refine lv_aload_n hx hb dX6_init_4 rfl (lv_at hl 0 rfl) ?_
  refine kr_new C h (Cn := RX1) (T := TX1) (N := 11) (ci := 1) rfl (by decide +kernel) tyX1 tyX1_ok (by decide +kernel) (by decide +kernel) (by decide +kernel) (fs := [.int 0, .null, .null, .null, .int 0, .null, .int 0, .int 0, .null, .null, .int 0]) (by decide +kernel) (Nat.le_of_ble_eq_true rfl) (Nat.le_of_ble_eq_true rfl) dX6_init_5 (fun q1 H h => ?_)
  refine W.widen (k := 1) (n := 11) (Nat.le_of_ble_eq_true rfl) (Nat.le_of_ble_eq_true rfl) ?_
  refine lv_dup hx hb dX6_init_8 rfl ?_
  have h : kH G A ([(h0, .inr (6, [.null, .null, .int 0, .null, .null, .null]))] ++ [(q1, .inr (1, [.int 0, .null, .null, .null, .int 0, .null, .int 0, .int 0, .null, .null, .int 0]))]) s H _ := h
  refine kr_callI C h (As := []) (rest := [.ref q1, .ref h0]) (k_X1_init l G c) (cwI 0 hts gX6_init_X1_init rfl rfl rfl (hts (.initialized RX1) (by decide +kernel)) (hts (.methodLink RX6 11 yX1_init) (by decide +kernel)) (hts (.instanceMethod yX1_init) (by decide +kernel)) rfl (by decide +kernel) ⟨Nat.le_of_ble_eq_true rfl, Nat.le_of_ble_eq_true rfl⟩) rfl hl.1 rfl (Nat.le_of_ble_eq_true rfl) dX6_init_9 ⟨Nat.le_of_ble_eq_true rfl, Nat.le_of_ble_eq_true rfl⟩ (fun f1 H locs ef1 h => ?_)
  refine W.widen (k := 78) (n := 649) (Nat.le_of_ble_eq_true rfl) (Nat.le_of_ble_eq_true rfl) ?_
  rw [← ef1]
  have h : kH G A ([(h0, .inr (6, [.null, .null, .int 0, .null, .null, .null]))] ++ (wFord c f1)) s H _ := h
  refine kr_putF C h hin2 0 rfl (T := TX6) (N := 6) rfl hin tyX6 tyX6_ok nmX6 0 (by decide) (by decide +kernel) rfl (by decide +kernel) (v := .ref (f1 0)) rfl rfl (Nat.le_of_ble_eq_true rfl) dX6_init_12 (fun H locs h => ?_)
  have h : kH G A ([(h0, .inr (6, [.ref (f1 0), .null, .int 0, .null, .null, .null]))] ++ (wFord c f1)) s H _ := h
  refine lv_aload_n hx hb dX6_init_15 rfl (lv_at hl 0 rfl) ?_
  refine kr_new C h (Cn := RX1) (T := TX1) (N := 11) (ci := 1) rfl (by decide +kernel) tyX1 tyX1_ok (by decide +kernel) (by decide +kernel) (by decide +kernel) (fs := [.int 0, .null, .null, .null, .int 0, .null, .int 0, .int 0, .null, .null, .int 0]) (by decide +kernel) (Nat.le_of_ble_eq_true rfl) (Nat.le_of_ble_eq_true rfl) dX6_init_16 (fun q2 H h => ?_)
  refine W.widen (k := 79) (n := 660) (Nat.le_of_ble_eq_true rfl) (Nat.le_of_ble_eq_true rfl) ?_
  refine lv_dup hx hb dX6_init_19 rfl ?_
  refine kr_callI C h (As := []) (rest := [.ref q2, .ref h0]) (k_X1_init l G c) (cwI 0 hts gX6_init_X1_init rfl rfl rfl (hts (.initialized RX1) (by decide +kernel)) (hts (.methodLink RX6 11 yX1_init) (by decide +kernel)) (hts (.instanceMethod yX1_init) (by decide +kernel)) rfl (by decide +kernel) ⟨Nat.le_of_ble_eq_true rfl, Nat.le_of_ble_eq_true rfl⟩) rfl hl.1 rfl (Nat.le_of_ble_eq_true rfl) dX6_init_20 ⟨Nat.le_of_ble_eq_true rfl, Nat.le_of_ble_eq_true rfl⟩ (fun f2 H locs ef2 h => ?_)
  refine W.widen (k := 156) (n := 1298) (Nat.le_of_ble_eq_true rfl) (Nat.le_of_ble_eq_true rfl) ?_
  rw [← ef2]
  rw [List.append_assoc] at h
  have h : kH G A ([(h0, .inr (6, [.ref (f1 0), .null, .int 0, .null, .null, .null]))] ++ (wFord c f1 ++ wFord c f2)) s H _ := h
  refine kr_putF C h hin2 0 rfl (T := TX6) (N := 6) rfl hin tyX6 tyX6_ok nmX6 1 (by decide) (by decide +kernel) rfl (by decide +kernel) (v := .ref (f2 0)) rfl rfl (Nat.le_of_ble_eq_true rfl) dX6_init_23 (fun H locs h => ?_)
  have h : kH G A ([(h0, .inr (6, [.ref (f1 0), .ref (f2 0), .int 0, .null, .null, .null]))] ++ (wFord c f1 ++ wFord c f2)) s H _ := h
  refine lv_aload_n hx hb dX6_init_26 rfl (lv_at hl 0 rfl) ?_
  refine kr_new C h (Cn := RX2) (T := TX2) (N := 5) (ci := 2) rfl (by decide +kernel) tyX2 tyX2_ok (by decide +kernel) (by decide +kernel) (by decide +kernel) (fs := [.null, .null, .null, .null, .null]) (by decide +kernel) (Nat.le_of_ble_eq_true rfl) (Nat.le_of_ble_eq_true rfl) dX6_init_27 (fun q3 H h => ?_)
  refine W.widen (k := 157) (n := 1303) (Nat.le_of_ble_eq_true rfl) (Nat.le_of_ble_eq_true rfl) ?_
  refine lv_dup hx hb dX6_init_30 rfl ?_
  refine lv_aload_n hx hb dX6_init_31 rfl (lv_at hl 0 rfl) ?_
  refine kr_get C h 0 rfl (Cn := RX6) (T := TX6) (N := 6) rfl hin 0 (by decide) (by decide +kernel) rfl dX6_init_32 ?_
  refine kr_callI C h (As := [.ref (f1 0)]) (rest := [.ref q3, .ref h0]) (k_X2_init l G c (f1 0)) (cwI 1 hts gX6_init_X2_init rfl rfl rfl (hts (.initialized RX2) (by decide +kernel)) (hts (.methodLink RX6 21 yX2_init) (by decide +kernel)) (hts (.instanceMethod yX2_init) (by decide +kernel)) rfl (by decide +kernel) ⟨Nat.le_of_ble_eq_true rfl, Nat.le_of_ble_eq_true rfl⟩) rfl hl.1 rfl (Nat.le_of_ble_eq_true rfl) dX6_init_35 ⟨Nat.le_of_ble_eq_true rfl, Nat.le_of_ble_eq_true rfl⟩ (fun fo H locs efo h => ?_)
  refine W.widen (k := 161) (n := 1445) (Nat.le_of_ble_eq_true rfl) (Nat.le_of_ble_eq_true rfl) ?_
  rw [← efo]
  rw [List.append_assoc] at h
  have h : kH G A ([(h0, .inr (6, [.ref (f1 0), .ref (f2 0), .int 0, .null, .null, .null]))] ++ ((wFord c f1 ++ wFord c f2) ++ wFore c (f1 0) fo)) s H _ := h
  refine kr_putF C h hin2 0 rfl (T := TX6) (N := 6) rfl hin tyX6 tyX6_ok nmX6 3 (by decide) (by decide +kernel) rfl (by decide +kernel) (v := .ref (fo 0)) rfl rfl (Nat.le_of_ble_eq_true rfl) dX6_init_38 (fun H locs h => ?_)
  have h : kH G A ([(h0, .inr (6, [.ref (f1 0), .ref (f2 0), .int 0, .ref (fo 0), .null, .null]))] ++ ((wFord c f1 ++ wFord c f2) ++ wFore c (f1 0) fo)) s H _ := h
  refine lv_aload_n hx hb dX6_init_41 rfl (lv_at hl 0 rfl) ?_
  refine kr_new C h (Cn := RX5) (T := TX5) (N := 4) (ci := 5) rfl (by decide +kernel) tyX5 tyX5_ok (by decide +kernel) (by decide +kernel) (by decide +kernel) (fs := [.null, .int 0, .int 0, .null]) (by decide +kernel) (Nat.le_of_ble_eq_true rfl) (Nat.le_of_ble_eq_true rfl) dX6_init_42 (fun q4 H h => ?_)
  refine W.widen (k := 162) (n := 1449) (Nat.le_of_ble_eq_true rfl) (Nat.le_of_ble_eq_true rfl) ?_
  refine lv_dup hx hb dX6_init_45 rfl ?_
  refine kr_callIN C h (As := []) (rest := [.ref q4, .ref h0]) (k_X5_init l G c) (host := RX6) ⟨va_cnB 0 hts gX6_init_X5_init_n30 rfl rfl rfl C.2.2.2.2.1 (hts (.initialized RX5) (by decide +kernel)) (by decide +kernel) ⟨Nat.le_of_ble_eq_true rfl, Nat.le_of_ble_eq_true rfl⟩, rfl, hts (.instanceMethod yX5_init) (by decide +kernel)⟩ rfl hl.1 rfl (Nat.le_of_ble_eq_true rfl) dX6_init_46 ⟨Nat.le_of_ble_eq_true rfl, Nat.le_of_ble_eq_true rfl⟩ (fun tp H locs etp h => ?_)
  refine W.widen (k := 241) (n := 2188) (Nat.le_of_ble_eq_true rfl) (Nat.le_of_ble_eq_true rfl) ?_
  rw [← etp]
  rw [List.append_assoc] at h
  have h : kH G A ([(h0, .inr (6, [.ref (f1 0), .ref (f2 0), .int 0, .ref (fo 0), .null, .null]))] ++ (((wFord c f1 ++ wFord c f2) ++ wFore c (f1 0) fo) ++ wTape c tp)) s H _ := h
  refine kr_putF C h hin2 0 rfl (T := TX6) (N := 6) rfl hin tyX6 tyX6_ok nmX6 4 (by decide) (by decide +kernel) rfl (by decide +kernel) (v := .ref (tp 0)) rfl rfl (Nat.le_of_ble_eq_true rfl) dX6_init_49 (fun H locs h => ?_)
  have h : kH G A ([(h0, .inr (6, [.ref (f1 0), .ref (f2 0), .int 0, .ref (fo 0), .ref (tp 0), .null]))] ++ (((wFord c f1 ++ wFord c f2) ++ wFore c (f1 0) fo) ++ wTape c tp)) s H _ := h
  refine lv_aload_n hx hb dX6_init_52 rfl (lv_at hl 0 rfl) ?_
  refine lv_iconst (v := 4) hx hb dX6_init_53 (by decide) ?_
  refine kr_newq C h 4 rfl C.2.2.2.2.2.2.2 (by decide +kernel) 4 rfl (by decide) (Nat.le_of_ble_eq_true rfl) (Nat.le_of_ble_eq_true rfl) dX6_init_54 (fun qs H h => ?_)
  refine W.widen (k := 242) (n := 2192) (Nat.le_of_ble_eq_true rfl) (Nat.le_of_ble_eq_true rfl) ?_
  have h := h.perm (perm2 _ _ _)
  have h : kH G A ([(h0, .inr (6, [.ref (f1 0), .ref (f2 0), .int 0, .ref (fo 0), .ref (tp 0), .null])), (qs, .inl (c 4, 4, .inr (.inr (.inr (.inr (fun _ => none))))))] ++ ((((wFord c f1 ++ wFord c f2) ++ wFore c (f1 0) fo) ++ wTape c tp) ++ [])) s H _ := h
  refine kr_putF C h hin2 0 rfl (T := TX6) (N := 6) rfl hin tyX6 tyX6_ok nmX6 5 (by decide) (by decide +kernel) rfl (by decide +kernel) (v := .ref qs) rfl rfl (Nat.le_of_ble_eq_true rfl) dX6_init_57 (fun H locs h => ?_)
  have h : kH G A ([(h0, .inr (6, [.ref (f1 0), .ref (f2 0), .int 0, .ref (fo 0), .ref (tp 0), .ref qs])), (qs, .inl (c 4, 4, .inr (.inr (.inr (.inr (fun _ => none))))))] ++ ((((wFord c f1 ++ wFord c f2) ++ wFore c (f1 0) fo) ++ wTape c tp) ++ [])) s H _ := h
  have h : kH G A (kFw c h0 qs (f1 0) (f2 0) (fo 0) (tp 0) (((wFord c f1 ++ wFord c f2) ++ wFore c (f1 0) fo) ++ wTape c tp) (fun _ _ => 0) 0) s H _ := h
  refine lv_iconst (v := 0) hx hb dX6_init_60 (by decide) ?_
  refine lv_istore_n (lv' := [(1, .int 0), (0, .ref h0)]) hx hb dX6_init_61 rfl hl (by decide) rfl (fun ls hl => ?_)
  exact kl_X6_init C hr hlocks h0 qs f1 f2 fo tp 4 0 rfl _ H _ ls h hl
