/-! ROWS over the world: an instruction that touches a cell, a call, an end: one row each. -/
def uC (E : uE) (p : Program) (s : State) (m : MethodId) (args : Array Value) (c : Code) (cc : ByteArray) (nL : Nat) (Ts : List Cond) (own : String) : Prop :=
  CallFix p m c cc nL s args Ts own ∧ va_K E.1 vwCl (uTys E) s ∧ uN s ∧ uI E
def uH (E : uE) (M : uM) (s : State) (H : Heap) (locs : List Loc) : Prop := va_P E.1 vwCl (uw E M) H ∧ va_S (uA E) s.heap H locs
theorem uB_blind {E : uE} {M : uM} {as : List Value} : FrameBlind (va_Pc as (uB E M)) := by
  intro a U g mk q
  obtain ⟨q0, qP, qK, qN⟩ := q
  exact ⟨q0, qP, va_K.moved (u := U) (U := U.calling g mk a) (Vm.Alike.refl U.vm) qK, va_Nw.same rfl rfl qN.1, va_Nw.same rfl rfl qN.2⟩
theorem uB_at {E : uE} {M : uM} {s U : State} {H : Heap} {locs : List Loc} (hK : va_K E.1 vwCl (uTys E) s) (hN : uN s) (h : uH E M s H locs) (hU : U.heap = H) (hW : s.WarmedH U.vm) : uB E M U :=
  ⟨by rw [hU]; exact h.1, va_K.moved hW.alike hK, va_Nw.warmM hW hN.1, va_Nw.warmM hW hN.2⟩
theorem u_start {l : Launch} {E : uE} {M : uM} {y : MethodName} {ws ws' : List Cond} {rm : Room} {Qc : Array Value → State → Outcome → State → Prop} {cc : ByteArray} {maxL : Nat} {ret : Option FieldType} {as : List Value} (hI : uI E) (hy : plainName y.cls = true) (hw : ws = Cond.code y cc maxL ret :: ws') (hlen : (lg_sl as).length ≤ maxL)
    (body : ∀ (p : Program) (e : Env) (s : State) (m : MethodId) (below : List Frame) (meth : Method) (c : Code), uC E p s m as.toArray c cc maxL ws y.cls → meth.sig.returnType = ret → meth.locks = false → uH E M s s.heap [] → ∀ ls : Array Slot, lv_has ls maxL (lv_args 0 as) →
      W p l e rm s m as.toArray below meth c s.heap [] 0 0 (MQ below Qc as.toArray s 0 0 (uA E)) (F0 m 0 ls [])) : Met l y ws rm (va_Pc as (uB E M)) Qc 0 0 (uA E) := by
  refine Met.ofW (cc := cc) (maxL := maxL) (ret := ret) hy hw ?_
  intro p e s m args below meth c s₁ B hml hv
  obtain ⟨rfl, hP, hK, hN⟩ := hv
  have hl := lv_entry as (n := maxL) hlen
  rw [lg_entry_eq]
  generalize (lg_sl as ++ List.replicate (maxL - (lg_sl as).length) Slot.unset).toArray = ls at hl ⊢
  exact body p e s m below meth c ⟨⟨B.exec, B.bytes, hml, findClass_of_methodNamed B.named, atoms_spec (ws := ws) B.pre⟩, hK, hN, hI⟩ B.returns B.notSynchronized ⟨hP, va_S.rf⟩ ls hl
section UR
variable {p : Program} {l : Launch} {e : Env} {R : Room} {s : State} {m : MethodId} {args : Array Value} {below : List Frame} {meth : Method} {c : Code} {H : Heap} {locs : List Loc} {Q : State → Prop} {E : uE} {M : uM} {cc : ByteArray} {nL : Nat} {Ts : List Cond} {own : String} {pc : Nat} {ls : Array Slot} {rest : List Value}
/-- the number on top by another name -/
theorem ur_eq {x y : Int32} (h : x = y) (k : W p l e R s m args below meth c H locs 0 0 Q (F0 m pc ls (.int y :: rest))) : W p l e R s m args below meth c H locs 0 0 Q (F0 m pc ls (.int x :: rest)) := by rw [h]; exact k
theorem ur_eql {x y : Int64} (h : x = y) (k : W p l e R s m args below meth c H locs 0 0 Q (F0 m pc ls (.long y :: rest))) : W p l e R s m args below meth c H locs 0 0 Q (F0 m pc ls (.long x :: rest)) := by rw [h]; exact k
theorem ur_get (C : uC E p s m args c cc nL Ts own) (h : uH E M s H locs) (k : Nat) (hk : k < 263) {ci : Nat} {fs : List Value} (he : uCell E M k = .inr (ci, fs)) {Cn : String} {T : u_T} {N : Nat} (hc : vwCl[ci]? = some (Cn, T, N)) (hin : ∀ w ∈ u_ws Cn T N, w ∈ Ts) (j : Nat) (hj : j < N) {index : Nat} (hlink : Cond.fieldLink own index (T j).1 (T j).2.1 (T j).2.2.1 ∈ Ts) {v : Value} (hv : fs[j]? = some v) (hdg : decode cc pc = .ok (.getfield index, 3))
    (kk : W p l e R s m args below meth c H locs 0 0 Q (F0 m (pc + 3) ls (v :: rest))) : W p l e R s m args below meth c H locs 0 0 Q (F0 m pc ls (.ref (E.2.1 k) :: rest)) := by
  obtain ⟨⟨hx, hb, hml, hown, hts⟩, hK, hN, hI⟩ := C
  exact va_get (D := E.1) hx hb hts hin hown hK h.1 k ((uw_at E M hk).trans (by rw [he])) hc j hj (hts _ hlink) (fun _ z => z) hv hdg kk
theorem ur_puti (C : uC E p s m args c cc nL Ts own) (h : uH E M s H locs) (k : Nat) (hk : k < 263) {ci : Nat} {fs : List Value} (he : uCell E M k = .inr (ci, fs)) {Cn : String} {T : u_T} {N : Nat} (hc : vwCl[ci]? = some (Cn, T, N)) (hin : ∀ w ∈ u_ws Cn T N, w ∈ Ts) (ty0 : Nat → FieldType) (hty : ∀ k, k < N → parseFieldDescriptor (T k).2.2.1 = some (ty0 k)) (hnm : ∀ a, a < N → ∀ b, b < N → a ≠ b → (T a).2.1 ≠ (T b).2.1) (j : Nat) (hj : j < N) {index : Nat} (hlink : Cond.fieldLink own index (T j).1 (T j).2.1 (T j).2.2.1 ∈ Ts) (hfin : (T j).2.2.2 = false) {x : Int32} (hn : narrow (ty0 j) (.int x) = .int x) (hfit : fits (ty0 j) (.int x) = true) (hl : j < fs.length) (hset : (.inr (ci, fs.set j (.int x)) : va_E) = uCell E (uSet M k j x) k) (hdg : decode cc pc = .ok (.putfield index, 3))
    (kk : ∀ (M' : uM) (H1 : Heap) (locs1 : List Loc), M' = uSet M k j x → uH E M' s H1 locs1 → W p l e R s m args below meth c H1 locs1 0 0 Q (F0 m (pc + 3) ls rest)) : W p l e R s m args below meth c H locs 0 0 Q (F0 m pc ls (.int x :: .ref (E.2.1 k) :: rest)) := by
  obtain ⟨⟨hx, hb, hml, hown, hts⟩, hK, hN, hI⟩ := C
  refine va_put (D := E.1) hx hb hts hin ty0 hty hnm hown hK h.1 (uw_D hI M) h.2 k ((uw_at E M hk).trans (by rw [he])) hc j hj (hts _ hlink) (fun _ z => z) hfin (hty j hj) hn hfit hl hdg (fun H1 locs1 hP hD hS => kk _ H1 locs1 rfl ⟨?_, hS⟩)
  rwa [uw_set hset (fun i hi => uCell_set E M x hi)] at hP
theorem ur_iald (C : uC E p s m args c cc nL Ts own) (h : uH E M s H locs) (k : Nat) (hk : k < 263) {n : Nat} (he : uCell E M k = .inl (E.2.2 0, n, .inl (M.1 k))) (i : Nat) (hi : i < n) (hn : n ≤ 65536) (hdg : decode cc pc = .ok (.iaload, 1))
    (kk : W p l e R s m args below meth c H locs 0 0 Q (F0 m (pc + 1) ls (.int (M.1 k i) :: rest))) : W p l e R s m args below meth c H locs 0 0 Q (F0 m pc ls (.int (nI i) :: .ref (E.2.1 k) :: rest)) := by
  obtain ⟨⟨hx, hb, hml, hown, hts⟩, hK, hN, hI⟩ := C
  refine va_iald (D := E.1) hx hb hK h.1 k 0 ((uw_at E M hk).trans (by rw [he])) rfl (vp_in_nI hi (by omega)) hdg ?_
  rw [nI_clamp (by omega)]
  exact kk
theorem ur_cald (C : uC E p s m args c cc nL Ts own) (h : uH E M s H locs) (k : Nat) (hk : k < 263) {n : Nat} (he : uCell E M k = .inl (E.2.2 2, n, .inl (M.1 k))) (i : Nat) (hi : i < n) (hn : n ≤ 65536) (hdg : decode cc pc = .ok (.caload, 1))
    (kk : W p l e R s m args below meth c H locs 0 0 Q (F0 m (pc + 1) ls (.int (M.1 k i) :: rest))) : W p l e R s m args below meth c H locs 0 0 Q (F0 m pc ls (.int (nI i) :: .ref (E.2.1 k) :: rest)) := by
  obtain ⟨⟨hx, hb, hml, hown, hts⟩, hK, hN, hI⟩ := C
  refine va_cald (D := E.1) hx hb hK h.1 k 2 ((uw_at E M hk).trans (by rw [he])) rfl (vp_in_nI hi (by omega)) hdg ?_
  rw [nI_clamp (by omega)]
  exact kk
theorem ur_lald (C : uC E p s m args c cc nL Ts own) (h : uH E M s H locs) (k : Nat) (hk : k < 263) {n : Nat} (he : uCell E M k = .inl (E.2.2 1, n, .inr (.inl (M.2.1 k)))) (i : Nat) (hi : i < n) (hn : n ≤ 65536) (hdg : decode cc pc = .ok (.laload, 1))
    (kk : W p l e R s m args below meth c H locs 0 0 Q (F0 m (pc + 1) ls (.long (M.2.1 k i) :: rest))) : W p l e R s m args below meth c H locs 0 0 Q (F0 m pc ls (.int (nI i) :: .ref (E.2.1 k) :: rest)) := by
  obtain ⟨⟨hx, hb, hml, hown, hts⟩, hK, hN, hI⟩ := C
  refine va_lald (D := E.1) hx hb hK h.1 k 1 ((uw_at E M hk).trans (by rw [he])) rfl (vp_in_nI hi (by omega)) hdg ?_
  rw [nI_clamp (by omega)]
  exact kk
/-- a moment out of the past, t0 = 3, a sheet, t0 = 4 -/
theorem ur_aald (C : uC E p s m args c cc nL Ts own) (h : uH E M s H locs) (k t0 : Nat) (hk : k < 263) {n : Nat} {cA : ClassId} {Cn : String} {f : Nat → Nat} (he : uCell E M k = .inl (cA, n, .inr (.inr (.inr (.inr (fun i => some (E.2.1 (f i)))))))) (ht : (uTys E)[t0]? = some (cA, .object Cn)) (i : Nat) (hi : i < n) (hn : n ≤ 65536) (hdg : decode cc pc = .ok (.aaload, 1))
    (kk : W p l e R s m args below meth c H locs 0 0 Q (F0 m (pc + 1) ls (.ref (E.2.1 (f i)) :: rest))) : W p l e R s m args below meth c H locs 0 0 Q (F0 m pc ls (.int (nI i) :: .ref (E.2.1 k) :: rest)) := by
  obtain ⟨⟨hx, hb, hml, hown, hts⟩, hK, hN, hI⟩ := C
  refine va_aldq (D := E.1) hx hb hK h.1 k t0 ((uw_at E M hk).trans (by rw [he])) ht (vp_in_nI hi (by omega)) hdg ?_
  rw [nI_clamp (by omega)]
  exact kk
theorem ur_iast (C : uC E p s m args c cc nL Ts own) (h : uH E M s H locs) (k : Nat) (hk : k < 263) {n : Nat} (he : ∀ M' : uM, uCell E M' k = .inl (E.2.2 0, n, .inl (M'.1 k))) (i : Nat) (hi : i < n) (hn : n ≤ 65536) {x : Int32} (hdg : decode cc pc = .ok (.iastore, 1))
    (kk : ∀ (M' : uM) (H1 : Heap) (locs1 : List Loc), M' = uSet M k i x → uH E M' s H1 locs1 → W p l e R s m args below meth c H1 locs1 0 0 Q (F0 m (pc + 1) ls rest)) : W p l e R s m args below meth c H locs 0 0 Q (F0 m pc ls (.int x :: .int (nI i) :: .ref (E.2.1 k) :: rest)) := by
  obtain ⟨⟨hx, hb, hml, hown, hts⟩, hK, hN, hI⟩ := C
  refine va_iast (D := E.1) hx hb hK h.1 (uw_D hI M) h.2 k 0 ((uw_at E M hk).trans (by rw [he])) rfl (vp_in_nI hi (by omega)) hdg (fun H1 locs1 hP hD hS => kk _ H1 locs1 rfl ⟨?_, hS⟩)
  rw [nI_clamp (by omega)] at hP
  rwa [uw_set (M' := uSet M k i x) (by rw [he]; simp [uSet, va_up]) (fun i hi => uCell_set E M x hi)] at hP
theorem ur_cast (C : uC E p s m args c cc nL Ts own) (h : uH E M s H locs) (k : Nat) (hk : k < 263) {n : Nat} (he : ∀ M' : uM, uCell E M' k = .inl (E.2.2 2, n, .inl (M'.1 k))) (i : Nat) (hi : i < n) (hn : n ≤ 65536) {x : Int32} (hx0 : vp_nar .char x = x) (hdg : decode cc pc = .ok (.castore, 1))
    (kk : ∀ (M' : uM) (H1 : Heap) (locs1 : List Loc), M' = uSet M k i x → uH E M' s H1 locs1 → W p l e R s m args below meth c H1 locs1 0 0 Q (F0 m (pc + 1) ls rest)) : W p l e R s m args below meth c H locs 0 0 Q (F0 m pc ls (.int x :: .int (nI i) :: .ref (E.2.1 k) :: rest)) := by
  obtain ⟨⟨hx, hb, hml, hown, hts⟩, hK, hN, hI⟩ := C
  refine va_cast (D := E.1) hx hb hK h.1 (uw_D hI M) h.2 k 2 ((uw_at E M hk).trans (by rw [he])) rfl (vp_in_nI hi (by omega)) hdg (fun H1 locs1 hP hD hS => kk _ H1 locs1 rfl ⟨?_, hS⟩)
  rw [nI_clamp (by omega), hx0] at hP
  rwa [uw_set (M' := uSet M k i x) (by rw [he]; simp [uSet, va_up]) (fun i hi => uCell_set E M x hi)] at hP
theorem ur_last (C : uC E p s m args c cc nL Ts own) (h : uH E M s H locs) (k : Nat) (hk : k < 263) {n : Nat} (he : ∀ M' : uM, uCell E M' k = .inl (E.2.2 1, n, .inr (.inl (M'.2.1 k)))) (i : Nat) (hi : i < n) (hn : n ≤ 65536) {x : Int64} (hdg : decode cc pc = .ok (.lastore, 1))
    (kk : ∀ (M' : uM) (H1 : Heap) (locs1 : List Loc), M' = uSetL M k i x → uH E M' s H1 locs1 → W p l e R s m args below meth c H1 locs1 0 0 Q (F0 m (pc + 1) ls rest)) : W p l e R s m args below meth c H locs 0 0 Q (F0 m pc ls (.long x :: .int (nI i) :: .ref (E.2.1 k) :: rest)) := by
  obtain ⟨⟨hx, hb, hml, hown, hts⟩, hK, hN, hI⟩ := C
  refine va_last (D := E.1) hx hb hK h.1 (uw_D hI M) h.2 k 1 ((uw_at E M hk).trans (by rw [he])) rfl (vp_in_nI hi (by omega)) hdg (fun H1 locs1 hP hD hS => kk _ H1 locs1 rfl ⟨?_, hS⟩)
  rw [nI_clamp (by omega)] at hP
  rwa [uw_set (M' := uSetL M k i x) (by rw [he]; simp [uSetL, va_up]) (fun i hi => uCell_setL E M x hi)] at hP
/-- System.arraycopy between rows of ints -/
theorem ur_copyi (C : uC E p s m args c cc nL Ts own) (h : uH E M s H locs) (hls : ls.size = nL) {index : Nat} (hlink : Cond.methodLink own index arraycopyName ∈ Ts) (hnat : Cond.native arraycopyName ∈ Ts) (hstat : Cond.static arraycopyName ∈ Ts) (hini : Cond.initialized "java/lang/System" ∈ Ts)
    (k0 k1 : Nat) (hk0 : k0 < 263) (hk1 : k1 < 263) {n0 n1 : Nat} (he0 : uCell E M k0 = .inl (E.2.2 0, n0, .inl (M.1 k0))) (he1 : ∀ M' : uM, uCell E M' k1 = .inl (E.2.2 0, n1, .inl (M'.1 k1))) (sp dp n : Nat) (h4 : sp + n ≤ n0) (h5 : dp + n ≤ n1) (hn0 : n0 ≤ 65536) (hn1 : n1 ≤ 65536)
    (hframes : 1 ≤ R.frames) (hlocals : (rest.map fun v => v.category).sum + (nativeFrameWords "java/lang/System" "arraycopy" 5 + 11) ≤ R.locals) (hdg : decode cc pc = .ok (.invokestatic index, 3))
    (kk : ∀ (M' : uM) (H1 : Heap) (locs1 : List Loc), M' = uRow M k1 (va_cpy (M.1 k0) (M.1 k1) sp dp n) → uH E M' s H1 locs1 → W p l e R s m args below meth c H1 locs1 0 0 Q (F0 m (pc + 3) ls rest)) : W p l e R s m args below meth c H locs 0 0 Q (F0 m pc ls (.int (nI n) :: .int (nI dp) :: .ref (E.2.1 k1) :: .int (nI sp) :: .ref (E.2.1 k0) :: rest)) := by
  obtain ⟨⟨hx, hb, hml, hown, hts⟩, hK, hN, hI⟩ := C
  refine va_copyi (D := E.1) (ty := .int) hx hb (by rw [hml, hls]) hown (hts _ hlink) (hts _ hnat) (hts _ hstat) (hts _ hini) hK h.1 (uw_D hI M) h.2 k0 k1 0 0 ((uw_at E M hk0).trans (by rw [he0])) ((uw_at E M hk1).trans (by rw [he1])) rfl rfl rfl (nI_pos (by omega)) (nI_pos (by omega)) (nI_pos (by omega)) (by rw [nI_clamp (by omega), nI_clamp (by omega)]; exact h4) (by rw [nI_clamp (by omega), nI_clamp (by omega)]; exact h5) (fun _ _ => rfl) hframes hlocals hdg (fun H1 locs1 hP hD hS => kk _ H1 locs1 rfl ⟨?_, hS⟩)
  rw [nI_clamp (by omega), nI_clamp (by omega), nI_clamp (by omega)] at hP
  rwa [uw_set (M' := uRow M k1 (va_cpy (M.1 k0) (M.1 k1) sp dp n)) (by rw [he1]; simp [uRow, va_up]) (fun i hi => uCell_row E M _ hi)] at hP
/-- System.arraycopy between rows of longs -/
theorem ur_copyl (C : uC E p s m args c cc nL Ts own) (h : uH E M s H locs) (hls : ls.size = nL) {index : Nat} (hlink : Cond.methodLink own index arraycopyName ∈ Ts) (hnat : Cond.native arraycopyName ∈ Ts) (hstat : Cond.static arraycopyName ∈ Ts) (hini : Cond.initialized "java/lang/System" ∈ Ts)
    (k0 k1 : Nat) (hk0 : k0 < 263) (hk1 : k1 < 263) {n0 n1 : Nat} (he0 : uCell E M k0 = .inl (E.2.2 1, n0, .inr (.inl (M.2.1 k0)))) (he1 : ∀ M' : uM, uCell E M' k1 = .inl (E.2.2 1, n1, .inr (.inl (M'.2.1 k1)))) (sp dp n : Nat) (h4 : sp + n ≤ n0) (h5 : dp + n ≤ n1) (hn0 : n0 ≤ 65536) (hn1 : n1 ≤ 65536)
    (hframes : 1 ≤ R.frames) (hlocals : (rest.map fun v => v.category).sum + (nativeFrameWords "java/lang/System" "arraycopy" 5 + 11) ≤ R.locals) (hdg : decode cc pc = .ok (.invokestatic index, 3))
    (kk : ∀ (M' : uM) (H1 : Heap) (locs1 : List Loc), M' = uRowL M k1 (va_cpy (M.2.1 k0) (M.2.1 k1) sp dp n) → uH E M' s H1 locs1 → W p l e R s m args below meth c H1 locs1 0 0 Q (F0 m (pc + 3) ls rest)) : W p l e R s m args below meth c H locs 0 0 Q (F0 m pc ls (.int (nI n) :: .int (nI dp) :: .ref (E.2.1 k1) :: .int (nI sp) :: .ref (E.2.1 k0) :: rest)) := by
  obtain ⟨⟨hx, hb, hml, hown, hts⟩, hK, hN, hI⟩ := C
  refine va_copyl (D := E.1) (ty := .long) hx hb (by rw [hml, hls]) hown (hts _ hlink) (hts _ hnat) (hts _ hstat) (hts _ hini) hK h.1 (uw_D hI M) h.2 k0 k1 1 1 ((uw_at E M hk0).trans (by rw [he0])) ((uw_at E M hk1).trans (by rw [he1])) rfl rfl rfl (nI_pos (by omega)) (nI_pos (by omega)) (nI_pos (by omega)) (by rw [nI_clamp (by omega), nI_clamp (by omega)]; exact h4) (by rw [nI_clamp (by omega), nI_clamp (by omega)]; exact h5) (fun _ _ => rfl) hframes hlocals hdg (fun H1 locs1 hP hD hS => kk _ H1 locs1 rfl ⟨?_, hS⟩)
  rw [nI_clamp (by omega), nI_clamp (by omega), nI_clamp (by omega)] at hP
  rwa [uw_set (M' := uRowL M k1 (va_cpy (M.2.1 k0) (M.2.1 k1) sp dp n)) (by rw [he1]; simp [uRowL, va_up]) (fun i hi => uCell_rowL E M _ hi)] at hP
/-- a call on a cell of the world that answers an int -/
theorem ur_callVi (C : uC E p s m args c cc nL Ts own) (h : uH E M s H locs) {y : MethodName} {ws : List Cond} {rm : Room} {k : Nat} {As : List Value} {post : Int32 → uM → Prop} (hM : Met l y ws rm (va_Pc (.ref (E.2.1 k) :: As) (uB E M)) (va_Qi post (uP E) (uA E)) 0 0 (uA E)) {Cn : String} {index maxL n : Nat} {bytes : ByteArray} {ret : Option FieldType} (cw : CallW R s args own Cn index y bytes maxL ret ws rm 0 0 n) (hk : k < 263) {ci : Nat} {fs : List Value} (he : uCell E M k = .inr (ci, fs)) {T : u_T} {N : Nat} (hc : vwCl[ci]? = some (Cn, T, N)) (hn : As.length = n) (hls : ls.size = nL) {st0 : List Value} (hst : st0 = As.reverse ++ .ref (E.2.1 k) :: rest) (hW : (rest.map fun v => v.category).sum ≤ 8) (hdg : decode cc pc = .ok (.invokevirtual index, 3))
    (kk : ∀ (r : Int32) (M' : uM) (H1 : Heap) (locs1 : List Loc), post r M' → uH E M' s H1 locs1 → W p l e R s m args below meth c H1 locs1 0 0 Q (F0 m (pc + 3) ls (.int r :: rest))) : W p l e R s m args below meth c H locs 0 0 Q (F0 m pc ls st0) := by
  obtain ⟨F, hK, hN, hI⟩ := C
  refine va_calli (va_runV (As := As) (rest := rest) F hM cw ⟨uB_blind, va_recv hK h.1 (ci := ci) (q0 := k) hc ((uw_at E M hk).trans (by rw [he])), fun U hU hW => ⟨rfl, uB_at hK hN h hU hW⟩⟩ rfl hn hls hst (lv_room hW) hdg ⟨Nat.zero_le _, Nat.zero_le _⟩) h.2 (fun q _ h => h) (fun q h => h) (fun r u t H1 locs1 ht _ hw hB _ _ hS => kk r u H1 locs1 hw ⟨?_, hS⟩)
  rw [← ht]; exact hB
theorem ur_callVl (C : uC E p s m args c cc nL Ts own) (h : uH E M s H locs) {y : MethodName} {ws : List Cond} {rm : Room} {k : Nat} {As : List Value} {post : Int64 → uM → Prop} (hM : Met l y ws rm (va_Pc (.ref (E.2.1 k) :: As) (uB E M)) (va_Ql post (uP E) (uA E)) 0 0 (uA E)) {Cn : String} {index maxL n : Nat} {bytes : ByteArray} {ret : Option FieldType} (cw : CallW R s args own Cn index y bytes maxL ret ws rm 0 0 n) (hk : k < 263) {ci : Nat} {fs : List Value} (he : uCell E M k = .inr (ci, fs)) {T : u_T} {N : Nat} (hc : vwCl[ci]? = some (Cn, T, N)) (hn : As.length = n) (hls : ls.size = nL) {st0 : List Value} (hst : st0 = As.reverse ++ .ref (E.2.1 k) :: rest) (hW : (rest.map fun v => v.category).sum ≤ 8) (hdg : decode cc pc = .ok (.invokevirtual index, 3))
    (kk : ∀ (r : Int64) (M' : uM) (H1 : Heap) (locs1 : List Loc), post r M' → uH E M' s H1 locs1 → W p l e R s m args below meth c H1 locs1 0 0 Q (F0 m (pc + 3) ls (.long r :: rest))) : W p l e R s m args below meth c H locs 0 0 Q (F0 m pc ls st0) := by
  obtain ⟨F, hK, hN, hI⟩ := C
  refine va_calll (va_runV (As := As) (rest := rest) F hM cw ⟨uB_blind, va_recv hK h.1 (ci := ci) (q0 := k) hc ((uw_at E M hk).trans (by rw [he])), fun U hU hW => ⟨rfl, uB_at hK hN h hU hW⟩⟩ rfl hn hls hst (lv_room hW) hdg ⟨Nat.zero_le _, Nat.zero_le _⟩) h.2 (fun q _ h => h) (fun q h => h) (fun r u t H1 locs1 ht _ hw hB _ _ hS => kk r u H1 locs1 hw ⟨?_, hS⟩)
  rw [← ht]; exact hB
theorem ur_callVv (C : uC E p s m args c cc nL Ts own) (h : uH E M s H locs) {y : MethodName} {ws : List Cond} {rm : Room} {k : Nat} {As : List Value} {post : uM → Prop} (hM : Met l y ws rm (va_Pc (.ref (E.2.1 k) :: As) (uB E M)) (va_Qv post (uP E) (uA E)) 0 0 (uA E)) {Cn : String} {index maxL n : Nat} {bytes : ByteArray} {ret : Option FieldType} (cw : CallW R s args own Cn index y bytes maxL ret ws rm 0 0 n) (hk : k < 263) {ci : Nat} {fs : List Value} (he : uCell E M k = .inr (ci, fs)) {T : u_T} {N : Nat} (hc : vwCl[ci]? = some (Cn, T, N)) (hn : As.length = n) (hls : ls.size = nL) {st0 : List Value} (hst : st0 = As.reverse ++ .ref (E.2.1 k) :: rest) (hW : (rest.map fun v => v.category).sum ≤ 8) (hdg : decode cc pc = .ok (.invokevirtual index, 3))
    (kk : ∀ (M' : uM) (H1 : Heap) (locs1 : List Loc), post M' → uH E M' s H1 locs1 → W p l e R s m args below meth c H1 locs1 0 0 Q (F0 m (pc + 3) ls rest)) : W p l e R s m args below meth c H locs 0 0 Q (F0 m pc ls st0) := by
  obtain ⟨F, hK, hN, hI⟩ := C
  refine va_callv (va_runV (As := As) (rest := rest) F hM cw ⟨uB_blind, va_recv hK h.1 (ci := ci) (q0 := k) hc ((uw_at E M hk).trans (by rw [he])), fun U hU hW => ⟨rfl, uB_at hK hN h hU hW⟩⟩ rfl hn hls hst (lv_room hW) hdg ⟨Nat.zero_le _, Nat.zero_le _⟩) h.2 (fun q _ h => h) (fun q h => h) (fun u t H1 locs1 ht _ hw hB _ _ hS => kk u H1 locs1 hw ⟨?_, hS⟩)
  rw [← ht]; exact hB
/-- static calls -/
theorem ur_callSi (C : uC E p s m args c cc nL Ts own) (h : uH E M s H locs) {y : MethodName} {ws : List Cond} {rm : Room} {As : List Value} {post : Int32 → uM → Prop} (hM : Met l y ws rm (va_Pc As (uB E M)) (va_Qi post (uP E) (uA E)) 0 0 (uA E)) {index maxL n : Nat} {bytes : ByteArray} {ret : Option FieldType} (cw : CallB R s args own index y bytes maxL ret ws rm 0 0 n ∧ (Cond.static y).before args s = true) (hn : As.length = n) (hls : ls.size = nL) {st0 : List Value} (hst : st0 = As.reverse ++ rest) (hW : (rest.map fun v => v.category).sum ≤ 8) (hdg : decode cc pc = .ok (.invokestatic index, 3))
    (kk : ∀ (r : Int32) (M' : uM) (H1 : Heap) (locs1 : List Loc), post r M' → uH E M' s H1 locs1 → W p l e R s m args below meth c H1 locs1 0 0 Q (F0 m (pc + 3) ls (.int r :: rest))) : W p l e R s m args below meth c H locs 0 0 Q (F0 m pc ls st0) := by
  obtain ⟨F, hK, hN, hI⟩ := C
  refine va_calli (va_runS (As := As) (rest := rest) F hM cw ⟨uB_blind, fun U hU hW => ⟨rfl, uB_at hK hN h hU hW⟩⟩ rfl hn hls hst (lv_room hW) hdg ⟨Nat.zero_le _, Nat.zero_le _⟩) h.2 (fun q _ h => h) (fun q h => h) (fun r u t H1 locs1 ht _ hw hB _ _ hS => kk r u H1 locs1 hw ⟨?_, hS⟩)
  rw [← ht]; exact hB
theorem ur_callSl (C : uC E p s m args c cc nL Ts own) (h : uH E M s H locs) {y : MethodName} {ws : List Cond} {rm : Room} {As : List Value} {post : Int64 → uM → Prop} (hM : Met l y ws rm (va_Pc As (uB E M)) (va_Ql post (uP E) (uA E)) 0 0 (uA E)) {index maxL n : Nat} {bytes : ByteArray} {ret : Option FieldType} (cw : CallB R s args own index y bytes maxL ret ws rm 0 0 n ∧ (Cond.static y).before args s = true) (hn : As.length = n) (hls : ls.size = nL) {st0 : List Value} (hst : st0 = As.reverse ++ rest) (hW : (rest.map fun v => v.category).sum ≤ 8) (hdg : decode cc pc = .ok (.invokestatic index, 3))
    (kk : ∀ (r : Int64) (M' : uM) (H1 : Heap) (locs1 : List Loc), post r M' → uH E M' s H1 locs1 → W p l e R s m args below meth c H1 locs1 0 0 Q (F0 m (pc + 3) ls (.long r :: rest))) : W p l e R s m args below meth c H locs 0 0 Q (F0 m pc ls st0) := by
  obtain ⟨F, hK, hN, hI⟩ := C
  refine va_calll (va_runS (As := As) (rest := rest) F hM cw ⟨uB_blind, fun U hU hW => ⟨rfl, uB_at hK hN h hU hW⟩⟩ rfl hn hls hst (lv_room hW) hdg ⟨Nat.zero_le _, Nat.zero_le _⟩) h.2 (fun q _ h => h) (fun q h => h) (fun r u t H1 locs1 ht _ hw hB _ _ hS => kk r u H1 locs1 hw ⟨?_, hS⟩)
  rw [← ht]; exact hB
/-- a nest mate's static method: has -/
theorem ur_callNi (C : uC E p s m args c cc nL Ts own) (h : uH E M s H locs) {y : MethodName} {ws : List Cond} {rm : Room} {As : List Value} {post : Int32 → uM → Prop} (hM : Met l y ws rm (va_Pc As (uB E M)) (va_Qi post (uP E) (uA E)) 0 0 (uA E)) {host : String} {index maxL n : Nat} {bytes : ByteArray} {ret : Option FieldType} (cw : va_CN R s args own index y host bytes maxL ret ws rm 0 0 n ∧ (Cond.static y).before args s = true ∧ True) (hn : As.length = n) (hls : ls.size = nL) {st0 : List Value} (hst : st0 = As.reverse ++ rest) (hW : (rest.map fun v => v.category).sum ≤ 8) (hdg : decode cc pc = .ok (.invokestatic index, 3))
    (kk : ∀ (r : Int32) (M' : uM) (H1 : Heap) (locs1 : List Loc), post r M' → uH E M' s H1 locs1 → W p l e R s m args below meth c H1 locs1 0 0 Q (F0 m (pc + 3) ls (.int r :: rest))) : W p l e R s m args below meth c H locs 0 0 Q (F0 m pc ls st0) := by
  obtain ⟨F, hK, hN, hI⟩ := C
  refine va_calli (va_runSN (As := As) (rest := rest) F hM cw ⟨uB_blind, fun U hU hW => ⟨rfl, uB_at hK hN h hU hW⟩⟩ rfl hn hls hst (lv_room hW) hdg ⟨Nat.zero_le _, Nat.zero_le _⟩) h.2 (fun q _ h => h) (fun q h => h) (fun r u t H1 locs1 ht _ hw hB _ _ hS => kk r u H1 locs1 hw ⟨?_, hS⟩)
  rw [← ht]; exact hB
/-- ends -/
theorem ur_iret (C : uC E p s m args c cc nL Ts own) (h : uH E M s H locs) {post : Int32 → uM → Prop} {v : Int32} (hr : meth.sig.returnType = some .int) (hlocks : meth.locks = false) (hp : post v M) (hdg : decode cc pc = .ok (.ireturn, 1)) : W p l e R s m args below meth c H locs 0 0 (MQ below (va_Qi post (uP E) (uA E)) args s 0 0 (uA E)) (F0 m pc ls [.int v]) :=
  W.iret C.1.1 C.1.2.1 hr (fun t ht _ => ⟨⟨v, M, rfl, hp, by unfold uP; rw [ht]; exact h.1⟩, h.2.F ht⟩) h.2.2.2 hdg hlocks
theorem ur_zret (C : uC E p s m args c cc nL Ts own) (h : uH E M s H locs) {post : Int32 → uM → Prop} {v : Int32} {ty : FieldType} (hr : meth.sig.returnType = some ty) (hn : narrow ty (.int v) = .int v) (hlocks : meth.locks = false) (hp : post v M) (hdg : decode cc pc = .ok (.ireturn, 1)) : W p l e R s m args below meth c H locs 0 0 (MQ below (va_Qi post (uP E) (uA E)) args s 0 0 (uA E)) (F0 m pc ls [.int v]) :=
  W.zret C.1.1 C.1.2.1 hr hn (fun t ht _ => ⟨⟨v, M, rfl, hp, by unfold uP; rw [ht]; exact h.1⟩, h.2.F ht⟩) h.2.2.2 hdg hlocks
theorem ur_lret (C : uC E p s m args c cc nL Ts own) (h : uH E M s H locs) {post : Int64 → uM → Prop} {v : Int64} (hr : meth.sig.returnType = some .long) (hlocks : meth.locks = false) (hp : post v M) (hdg : decode cc pc = .ok (.lreturn, 1)) : W p l e R s m args below meth c H locs 0 0 (MQ below (va_Ql post (uP E) (uA E)) args s 0 0 (uA E)) (F0 m pc ls [.long v]) :=
  W.lret C.1.1 C.1.2.1 hr (fun t ht _ => ⟨⟨v, M, rfl, hp, by unfold uP; rw [ht]; exact h.1⟩, h.2.F ht⟩) h.2.2.2 hdg hlocks
theorem ur_vret (C : uC E p s m args c cc nL Ts own) (h : uH E M s H locs) {post : uM → Prop} (hr : meth.sig.returnType = none) (hlocks : meth.locks = false) (hp : post M) (hdg : decode cc pc = .ok (.return_, 1)) : W p l e R s m args below meth c H locs 0 0 (MQ below (va_Qv post (uP E) (uA E)) args s 0 0 (uA E)) (F0 m pc ls []) :=
  W.vret C.1.1 C.1.2.1 hr (fun t ht _ => ⟨⟨M, rfl, hp, by unfold uP; rw [ht]; exact h.1⟩, h.2.F ht⟩) h.2.2.2 hdg hlocks
end UR
