/-! MAKING: cells that come. The rows of a constructor's walk, over any list of cells. -/
def kTys (c : Nat → ClassId) : List (ClassId × FieldType) := [(c 0, .int), (c 1, .long), (c 2, .char), (c 3, .object "FordWord$Moment"), (c 4, .object "FordWord$Sheet")]
def kN (U : State) : Prop := va_Nw (.methodLinkNest RX1 33 yX3_init RX6) U ∧ va_Nw (.methodLinkNest RX3 23 yX0_init RX6) U ∧ va_Nw (.methodLinkNest RX6 30 yX5_init RX6) U ∧ va_Nw (.methodLinkNest RX6 41 yX4_init RX6) U ∧ va_AO "FordWord$Moment" U ∧ va_AO "FordWord$Sheet" U
def kB (G : va_G) (c : Nat → ClassId) (sz : Nat) (w : va_W) (U : State) : Prop := U.heap.size = sz ∧ va_P G vwCl w U.heap ∧ va_K G vwCl (kTys c) U ∧ va_D (fun _ => True) w ∧ kN U
theorem kB_blind {G : va_G} {c : Nat → ClassId} {sz : Nat} {w : va_W} {as : List Value} : FrameBlind (va_Pc as (kB G c sz w)) := by
  intro a U g mk q
  obtain ⟨q0, q1, qP, qK, qD, n1, n2, n3, n4, n5, n6⟩ := q
  exact ⟨q0, q1, qP, va_K.moved (u := U) (U := U.calling g mk a) (Vm.Alike.refl U.vm) qK, qD, va_Nw.same rfl rfl n1, va_Nw.same rfl rfl n2, va_Nw.same rfl rfl n3, va_Nw.same rfl rfl n4, va_AO.moved (u := U) (U := U.calling g mk a) (Vm.Alike.refl U.vm) n5, va_AO.moved (u := U) (U := U.calling g mk a) (Vm.Alike.refl U.vm) n6⟩
/-- what a constructor that is given q leaves: the cells w of the addresses a, a's first is q -/
def kQ (G : va_G) (w : (Nat → Nat) → va_W) (A : Nat → Prop) (a : Nat → Nat) (U : State) : Prop := va_P G vwCl (w a) U.heap ∧ va_D A (w a)
def kM (l : Launch) (G : va_G) (c : Nat → ClassId) (y : MethodName) (ws : List Cond) (rm : Room) (mc ms : Nat) (As : List Value) (e0 : va_E) (w : (Nat → Nat) → va_W) : Prop :=
  ∀ (h0 sz : Nat), Met l y ws rm (va_Pc (.ref h0 :: As) (kB G c sz [(h0, e0)])) (va_Qv (fun a : Nat → Nat => a 0 = h0) (kQ G w (va_A [(h0, e0)] sz)) (va_A [(h0, e0)] sz)) mc ms (va_A [(h0, e0)] sz)
def kF (G : va_G) (c : Nat → ClassId) (p : Program) (s : State) (m : MethodId) (args : Array Value) (c0 : Code) (cc : ByteArray) (nL : Nat) (Ts : List Cond) (own : String) : Prop :=
  CallFix p m c0 cc nL s args Ts own ∧ va_K G vwCl (kTys c) s ∧ kN s
def kH (G : va_G) (A : Nat → Prop) (ws : va_W) (s : State) (H : Heap) (locs : List Loc) : Prop := va_P G vwCl ws H ∧ va_D A ws ∧ va_S A s.heap H locs ∧ ∀ q, s.heap.size ≤ q → A q
theorem k_start {l : Launch} {G : va_G} {c : Nat → ClassId} {y : MethodName} {ws ws' : List Cond} {rm : Room} {mc ms : Nat} {As : List Value} {e0 : va_E} {w : (Nat → Nat) → va_W} {cc : ByteArray} {maxL : Nat} (hy : plainName y.cls = true) (hn : y.name = "<init>") (hw : ws = Cond.code y cc maxL none :: ws') (hlen : ∀ h0, (lg_sl (.ref h0 :: As)).length ≤ maxL)
    (body : ∀ (h0 : Nat) (p : Program) (e : Env) (s : State) (m : MethodId) (below : List Frame) (meth : Method) (c0 : Code) (A : Nat → Prop), A = va_A [(h0, e0)] s.heap.size → kF G c p s m (Value.ref h0 :: As).toArray c0 cc maxL ws y.cls → meth.sig.returnType = none → meth.locks = false → meth.name = "<init>" → kH G A [(h0, e0)] s s.heap [] → ∀ ls : Array Slot, lv_has ls maxL (lv_args 0 (.ref h0 :: As)) →
      W p l e rm s m (Value.ref h0 :: As).toArray below meth c0 s.heap [] 0 0 (MQ below (va_Qv (fun a : Nat → Nat => a 0 = h0) (kQ G w A) A) (Value.ref h0 :: As).toArray s mc ms A) (F0 m 0 ls [])) : kM l G c y ws rm mc ms As e0 w := by
  intro h0 sz
  refine Met.ofW (cc := cc) (maxL := maxL) (ret := none) hy hw ?_
  intro p e s m args below meth c0 s₁ B hml hv
  obtain ⟨rfl, hsz, hP, hK, hD0, hN⟩ := hv
  subst hsz
  have hl := lv_entry (.ref h0 :: As) (n := maxL) (hlen h0)
  rw [lg_entry_eq]
  generalize (lg_sl (.ref h0 :: As) ++ List.replicate (maxL - (lg_sl (.ref h0 :: As)).length) Slot.unset).toArray = ls at hl ⊢
  exact body h0 p e s m below meth c0 _ rfl ⟨⟨B.exec, B.bytes, hml, findClass_of_methodNamed B.named, atoms_spec (ws := ws) B.pre⟩, hK, hN⟩ B.returns B.notSynchronized ((name_of_methodNamed B.named B.method).1.trans hn) ⟨hP, hD0.self, va_S.rf, fun q h => Or.inr h⟩ ls hl
section KR
variable {p : Program} {l : Launch} {e : Env} {R : Room} {s : State} {m : MethodId} {args : Array Value} {below : List Frame} {meth : Method} {c0 : Code} {H : Heap} {locs : List Loc} {Q : State → Prop} {G : va_G} {c : Nat → ClassId} {cc : ByteArray} {nL : Nat} {Ts : List Cond} {own : String} {pc : Nat} {ls : Array Slot} {rest : List Value} {A : Nat → Prop} {ws : va_W} {cells slots : Nat}
theorem kr_newi (C : kF G c p s m args c0 cc nL Ts own) (h : kH G A ws s H locs) (harr : Cond.arrayClass .int ∈ Ts) {n : Int32} (N : Nat) (hn : n = nI N) (hN : N ≤ 65536) (hcells : cells + 1 ≤ R.cells) (hslots : slots + N ≤ R.slots) (hdg : decode cc pc = .ok (.newarray .int, 2))
    (kk : ∀ (q : Nat) (H1 : Heap), kH G A (ws ++ [(q, .inl (c 0, N, .inl (fun _ => 0)))]) s H1 locs → W p l e R s m args below meth c0 H1 locs (cells + 1) (slots + N) Q (F0 m (pc + 2) ls (.ref q :: rest))) : W p l e R s m args below meth c0 H locs cells slots Q (F0 m pc ls (.int n :: rest)) := by
  obtain ⟨⟨hx, hb, hml, hown, hts⟩, hK, hN'⟩ := C
  obtain ⟨hP, hD, hS, hA⟩ := h
  subst hn
  refine va_newa (atype := .int) (a0 := (N, .inl (fun _ => 0))) hx hb (hts _ harr) rfl hK hP hD hS hA (fun cA => rfl) (nI_pos (by omega)) (nI_clamp (by omega)) (by show N * 4 ≤ _; omega) hcells hslots hdg (fun q cA H1 hK1 hP1 hD1 hS1 => ?_)
  have e1 := (hK1.2 5 _ rfl).2
  have e2 := (hK.2 0 _ rfl).2
  have e3 : cA = c 0 := Option.some.inj (e1.symm.trans e2)
  subst e3
  exact kk q H1 ⟨hP1, hD1, hS1, hA⟩
theorem kr_newl (C : kF G c p s m args c0 cc nL Ts own) (h : kH G A ws s H locs) (harr : Cond.arrayClass .long ∈ Ts) {n : Int32} (N : Nat) (hn : n = nI N) (hN : N ≤ 65536) (hcells : cells + 1 ≤ R.cells) (hslots : slots + N ≤ R.slots) (hdg : decode cc pc = .ok (.newarray .long, 2))
    (kk : ∀ (q : Nat) (H1 : Heap), kH G A (ws ++ [(q, .inl (c 1, N, .inr (.inl (fun _ => 0))))]) s H1 locs → W p l e R s m args below meth c0 H1 locs (cells + 1) (slots + N) Q (F0 m (pc + 2) ls (.ref q :: rest))) : W p l e R s m args below meth c0 H locs cells slots Q (F0 m pc ls (.int n :: rest)) := by
  obtain ⟨⟨hx, hb, hml, hown, hts⟩, hK, hN'⟩ := C
  obtain ⟨hP, hD, hS, hA⟩ := h
  subst hn
  refine va_newa (atype := .long) (a0 := (N, .inr (.inl (fun _ => 0)))) hx hb (hts _ harr) rfl hK hP hD hS hA (fun cA => rfl) (nI_pos (by omega)) (nI_clamp (by omega)) (by show N * 8 ≤ _; omega) hcells hslots hdg (fun q cA H1 hK1 hP1 hD1 hS1 => ?_)
  have e1 := (hK1.2 5 _ rfl).2
  have e2 := (hK.2 1 _ rfl).2
  have e3 : cA = c 1 := Option.some.inj (e1.symm.trans e2)
  subst e3
  exact kk q H1 ⟨hP1, hD1, hS1, hA⟩
theorem kr_newc (C : kF G c p s m args c0 cc nL Ts own) (h : kH G A ws s H locs) (harr : Cond.arrayClass .char ∈ Ts) {n : Int32} (N : Nat) (hn : n = nI N) (hN : N ≤ 65536) (hcells : cells + 1 ≤ R.cells) (hslots : slots + N ≤ R.slots) (hdg : decode cc pc = .ok (.newarray .char, 2))
    (kk : ∀ (q : Nat) (H1 : Heap), kH G A (ws ++ [(q, .inl (c 2, N, .inl (fun _ => 0)))]) s H1 locs → W p l e R s m args below meth c0 H1 locs (cells + 1) (slots + N) Q (F0 m (pc + 2) ls (.ref q :: rest))) : W p l e R s m args below meth c0 H locs cells slots Q (F0 m pc ls (.int n :: rest)) := by
  obtain ⟨⟨hx, hb, hml, hown, hts⟩, hK, hN'⟩ := C
  obtain ⟨hP, hD, hS, hA⟩ := h
  subst hn
  refine va_newa (atype := .char) (a0 := (N, .inl (fun _ => 0))) hx hb (hts _ harr) rfl hK hP hD hS hA (fun cA => rfl) (nI_pos (by omega)) (nI_clamp (by omega)) (by show N * 2 ≤ _; omega) hcells hslots hdg (fun q cA H1 hK1 hP1 hD1 hS1 => ?_)
  have e1 := (hK1.2 5 _ rfl).2
  have e2 := (hK.2 2 _ rfl).2
  have e3 : cA = c 2 := Option.some.inj (e1.symm.trans e2)
  subst e3
  exact kk q H1 ⟨hP1, hD1, hS1, hA⟩
/-- rows of references: t 3 moments, 4 sheets -/
theorem kr_newq (C : kF G c p s m args c0 cc nL Ts own) (h : kH G A ws s H locs) {Cn : String} (t : Nat) (ht : (kTys c)[t]? = some (c t, .object Cn)) (hao : va_AO Cn s) {index : Nat} (hlink : Cond.classLink own index Cn ∈ Ts) {n : Int32} (N : Nat) (hn : n = nI N) (hN : N ≤ 65536) (hcells : cells + 1 ≤ R.cells) (hslots : slots + N ≤ R.slots) (hdg : decode cc pc = .ok (.anewarray index, 3))
    (kk : ∀ (q : Nat) (H1 : Heap), kH G A (ws ++ [(q, .inl (c t, N, .inr (.inr (.inr (.inr (fun _ => none))))))]) s H1 locs → W p l e R s m args below meth c0 H1 locs (cells + 1) (slots + N) Q (F0 m (pc + 3) ls (.ref q :: rest))) : W p l e R s m args below meth c0 H locs cells slots Q (F0 m pc ls (.int n :: rest)) := by
  obtain ⟨⟨hx, hb, hml, hown, hts⟩, hK, hN'⟩ := C
  obtain ⟨hP, hD, hS, hA⟩ := h
  subst hn
  refine va_newq hx hb hown (hts _ hlink) hao hK hP hD hS hA (nI_pos (by omega)) (nI_clamp (by omega)) (by omega) hcells hslots hdg (fun q cA H1 hK1 hP1 hD1 hS1 => ?_)
  obtain ⟨k1, c1, -, -, -, e1⟩ := (hK1.2 5 _ rfl).2
  obtain ⟨k2, c2, -, -, -, e2⟩ := (hK.2 t _ ht).2
  have e3 : cA = c t := Option.some.inj (e1.symm.trans e2)
  subst e3
  exact kk q H1 ⟨hP1, hD1, hS1, hA⟩
theorem kr_new (C : kF G c p s m args c0 cc nL Ts own) (h : kH G A ws s H locs) {Cn : String} {T : u_T} {N ci index : Nat} (hc : vwCl[ci]? = some (Cn, T, N)) (hin : ∀ w ∈ u_ws Cn T N, w ∈ Ts) (ty : Nat → FieldType) (hty : ∀ k, k < N → parseFieldDescriptor (T k).2.2.1 = some (ty k)) (hlink : Cond.classLink own index Cn ∈ Ts) (hinst : Cond.instantiable Cn N ∈ Ts) (hini : Cond.initialized Cn ∈ Ts) {fs : List Value} (hfs : ∀ j, j < N → defaultValue (ty j) = vp_V fs j) (hcells : cells + 1 ≤ R.cells) (hslots : slots + N ≤ R.slots) (hdg : decode cc pc = .ok (.new index, 3))
    (kk : ∀ (q : Nat) (H1 : Heap), kH G A (ws ++ [(q, .inr (ci, fs))]) s H1 locs → W p l e R s m args below meth c0 H1 locs (cells + 1) (slots + N) Q (F0 m (pc + 3) ls (.ref q :: rest))) : W p l e R s m args below meth c0 H locs cells slots Q (F0 m pc ls rest) := by
  obtain ⟨⟨hx, hb, hml, hown, hts⟩, hK, hN'⟩ := C
  obtain ⟨hP, hD, hS, hA⟩ := h
  exact va_new (ci := ci) hx hb hts hin ty hty hown (hts _ hlink) (hts _ hinst) (hts _ hini) hK hP hD hS hA hc hfs hcells hslots hdg (fun q H1 hP1 hD1 hS1 => kk q H1 ⟨hP1, hD1, hS1, hA⟩)
theorem kr_objInit (C : kF G c p s m args c0 cc nL Ts own) {idx : Nat} (h1 : Cond.methodLink own idx objectInit ∈ Ts) (h2 : Cond.instanceMethod objectInit ∈ Ts) (h3 : Cond.code objectInit ⟨#[0xb1]⟩ 1 none ∈ Ts) {h0 : Nat} (hls : ls.size = nL) (hdg : decode cc pc = .ok (.invokespecial idx, 3)) (hf : 1 ≤ R.frames) (hlo : 12 ≤ R.locals)
    (kk : W p l e R s m args below meth c0 H locs cells slots Q (F0 m (pc + 3) ls [])) : W p l e R s m args below meth c0 H locs cells slots Q (F0 m pc ls [.ref h0]) := by
  obtain ⟨⟨hx, hb, hml, hown, hts⟩, hK, hN'⟩ := C
  exact W.objInit hx hb hown (hts _ h1) (hts _ h2) (hts _ h3) rfl (by rw [hml]; exact hls) rfl hdg hf hlo kk
end KR
