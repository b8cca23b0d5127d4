theorem kN_warm {s U : State} (hW : s.WarmedH U.vm) (h : kN s) : kN U := ⟨va_Nw.warmM hW h.1, va_Nw.warmM hW h.2.1, va_Nw.warmM hW h.2.2.1, va_Nw.warmM hW h.2.2.2.1, va_AO.moved hW.alike h.2.2.2.2.1, va_AO.moved hW.alike h.2.2.2.2.2⟩
theorem kP_mem {G : va_G} {ws : va_W} {H : Heap} : va_P G vwCl ws H ↔ ∀ x, x ∈ ws → va_at G vwCl x H := by
  refine ⟨fun h x hx => ?_, fun h k q hk => h q (List.mem_of_getElem? hk)⟩
  obtain ⟨k, hk⟩ := List.getElem?_of_mem hx
  exact h k x hk
theorem kD_iff {A : Nat → Prop} {ws : va_W} : va_D A ws ↔ ws.Pairwise (fun x y => x.1 ≠ y.1) ∧ ∀ x, x ∈ ws → A x.1 := by
  refine ⟨fun h => ⟨?_, fun x hx => ?_⟩, fun h => ⟨fun i j p q hi hj e => ?_, fun k q hk => h.2 q (List.mem_of_getElem? hk)⟩⟩
  · rw [List.pairwise_iff_getElem]
    intro i j hi hj hij e
    have := h.1 i j _ _ (List.getElem?_eq_getElem hi) (List.getElem?_eq_getElem hj) e
    omega
  · obtain ⟨k, hk⟩ := List.getElem?_of_mem hx
    exact h.2 k x hk
  · obtain ⟨hi', ei⟩ := List.getElem?_eq_some_iff.mp hi
    obtain ⟨hj', ej⟩ := List.getElem?_eq_some_iff.mp hj
    have n1 := List.pairwise_iff_getElem.mp h.1
    rcases Nat.lt_trichotomy i j with z | z | z
    · exact absurd (by rw [ei, ej]; exact e) (n1 i j hi' hj' z)
    · exact z
    · exact absurd (by rw [ei, ej]; exact e.symm) (n1 j i hj' hi' z)
/-- the same cells in another order -/
theorem kH.perm {G : va_G} {A : Nat → Prop} {ws ws' : va_W} {s : State} {H : Heap} {locs : List Loc} (h : kH G A ws s H locs) (hp : ws.Perm ws') : kH G A ws' s H locs := by
  obtain ⟨hP, hD, hS, hA⟩ := h
  rw [kP_mem] at hP
  rw [kD_iff] at hD
  refine ⟨kP_mem.mpr (fun x hx => hP x (hp.mem_iff.mpr hx)), kD_iff.mpr ⟨(hp.pairwise_iff (fun {x y} (z : x.1 ≠ y.1) => z.symm)).mp hD.1, fun x hx => hD.2 x (hp.mem_iff.mpr hx)⟩, hS, hA⟩
theorem kj_join {A0 : Nat → Prop} {G : va_G} {ws w1 : va_W} {wq : Nat × va_E} {H H1 : Heap} (hP : va_P G vwCl (ws ++ [wq]) H) (hD : va_D A0 (ws ++ [wq])) (hk : ∀ q : Nat, q < H.size → ¬ va_A [wq] H.size q → H1[q]? = H[q]?) (hF : ∀ q, va_A [wq] H.size q → A0 q) (hP1 : va_P G vwCl w1 H1) (hD1 : va_D (va_A [wq] H.size) w1) : va_P G vwCl (ws ++ w1) H1 ∧ va_D A0 (ws ++ w1) := by
  have hat : ∀ (k : Nat) (x : Nat × va_E), ws[k]? = some x → (ws ++ [wq])[k]? = some x := fun k x hx => by
    rw [List.getElem?_append_left (List.getElem?_eq_some_iff.mp hx).1]; exact hx
  have hlt : ∀ (k : Nat) (x : Nat × va_E), ws[k]? = some x → x.1 < H.size ∧ x.1 ≠ wq.1 := fun k x hx => by
    refine ⟨(hP k x (hat k x hx)).lt, fun e => ?_⟩
    have hkl := (List.getElem?_eq_some_iff.mp hx).1
    have := hD.1 k ws.length x wq (hat k x hx) (by simp) e
    omega
  have hnA : ∀ (k : Nat) (x : Nat × va_E), ws[k]? = some x → ¬ va_A [wq] H.size x.1 := fun k x hx z => by
    obtain ⟨h1, h2⟩ := hlt k x hx
    rcases z with ⟨j, e, hj⟩ | z
    · have hj0 : j < 1 := (List.getElem?_eq_some_iff.mp hj).1
      rw [show j = 0 by omega] at hj
      have : wq = (x.1, e) := Option.some.inj hj
      exact h2 (by rw [this])
    · omega
  refine ⟨va_P.app (fun k x hx => (hP k x (hat k x hx)).kept (hk x.1 (hlt k x hx).1 (hnA k x hx))) hP1, ⟨fun i j x y hx hy e => ?_, fun k x hx => ?_⟩⟩
  · by_cases hi : i < ws.length
    · rw [List.getElem?_append_left hi] at hx
      by_cases hj : j < ws.length
      · rw [List.getElem?_append_left hj] at hy
        exact hD.1 i j x y (hat i x hx) (hat j y hy) e
      · rw [List.getElem?_append_right (by omega)] at hy
        exact absurd (e ▸ hD1.2 _ y hy) (hnA i x hx)
    · rw [List.getElem?_append_right (by omega)] at hx
      by_cases hj : j < ws.length
      · rw [List.getElem?_append_left hj] at hy
        exact absurd (e ▸ hD1.2 _ x hx) (hnA j y hy)
      · rw [List.getElem?_append_right (by omega)] at hy
        have := hD1.1 _ _ x y hx hy e
        omega
  · by_cases hk' : k < ws.length
    · rw [List.getElem?_append_left hk'] at hx
      exact hD.2 k x (hat k x hx)
    · rw [List.getElem?_append_right (by omega)] at hx
      exact hF _ (hD1.2 _ x hx)
section KR2
variable {p : Program} {l : Launch} {e : Env} {R : Room} {s : State} {m : MethodId} {args : Array Value} {below : List Frame} {meth : Method} {c0 : Code} {H : Heap} {locs : List Loc} {Q : State → Prop} {G : va_G} {c : Nat → ClassId} {cc : ByteArray} {nL : Nat} {Ts : List Cond} {own : String} {pc : Nat} {ls : Array Slot} {rest : List Value} {A : Nat → Prop} {ws : va_W} {cells slots : Nat}
theorem kr_last {q : Nat} {e0 : va_E} (h : kH G A (ws ++ [(q, e0)]) s H locs) : va_P G vwCl [(q, e0)] H ∧ va_D A [(q, e0)] ∧ ∀ x, va_A [(q, e0)] H.size x → A x := by
  obtain ⟨hP, hD, hS, hA⟩ := h
  have hlast : (ws ++ [(q, e0)])[ws.length]? = some (q, e0) := by simp
  refine ⟨fun k x hk => ?_, ⟨fun i j x y hi hj _ => ?_, fun k x hk => ?_⟩, fun x hx => ?_⟩
  · have h0 : k < 1 := (List.getElem?_eq_some_iff.mp hk).1
    rw [show k = 0 by omega] at hk
    cases hk
    exact hP _ _ hlast
  · have h0 : i < 1 := (List.getElem?_eq_some_iff.mp hi).1
    have h1 : j < 1 := (List.getElem?_eq_some_iff.mp hj).1
    omega
  · have h0 : k < 1 := (List.getElem?_eq_some_iff.mp hk).1
    rw [show k = 0 by omega] at hk
    cases hk
    exact hD.2 _ _ hlast
  · rcases hx with ⟨k, e, hk⟩ | hx
    · have h0 : k < 1 := (List.getElem?_eq_some_iff.mp hk).1
      rw [show k = 0 by omega] at hk
      have : (q, e0) = (x, e) := Option.some.inj hk
      have e1 : q = x := congrArg Prod.fst this
      rw [← e1]
      exact hD.2 _ _ hlast
    · exact hA x (Nat.le_trans hS.1 hx)
/-- a cell made, then its constructor -/
theorem kr_callI (C : kF G c p s m args c0 cc nL Ts own) {q : Nat} {e0 : va_E} (h : kH G A (ws ++ [(q, e0)]) s H locs) {y : MethodName} {wsY : List Cond} {rm : Room} {mc ms : Nat} {As : List Value} {w : (Nat → Nat) → va_W} (hM : kM l G c y wsY rm mc ms As e0 w) {index maxL n : Nat} {bytes : ByteArray} (cw : CallB R s args own index y bytes maxL none wsY rm mc ms n ∧ y.name = "<init>" ∧ (Cond.instanceMethod y).before args s = true) (hn : As.length = n) (hls : ls.size = nL) {st0 : List Value} (hst : st0 = As.reverse ++ .ref q :: rest) (hW : (rest.map fun v => v.category).sum ≤ 8) (hdg : decode cc pc = .ok (.invokespecial index, 3)) (hf : cells + mc ≤ R.cells ∧ slots + ms ≤ R.slots)
    (kk : ∀ (a : Nat → Nat) (H1 : Heap) (locs1 : List Loc), a 0 = q → kH G A (ws ++ w a) s H1 locs1 → W p l e R s m args below meth c0 H1 locs1 (cells + mc) (slots + ms) Q (F0 m (pc + 3) ls rest)) : W p l e R s m args below meth c0 H locs cells slots Q (F0 m pc ls st0) := by
  obtain ⟨F, hK, hN⟩ := C
  obtain ⟨hPc, hDc, hFc⟩ := kr_last h
  obtain ⟨hP, hD, hS, hA⟩ := h
  refine va_callv (va_runI (As := As) (rest := rest) F (hM q H.size) cw ⟨kB_blind, fun U hU hW => ⟨rfl, by rw [hU], by rw [hU]; exact hPc, va_K.moved hW.alike hK, hDc.weaken (fun _ _ _ _ => trivial), kN_warm hW hN⟩⟩ rfl hn hls hst (lv_room hW) hdg hf) hS (fun x _ h => hFc x h) hFc (fun a t H1 locs1 ht hvm hw hB hz1 hk1 hS1 => ?_)
  obtain ⟨hP1, hD1⟩ := hB
  rw [ht] at hP1
  obtain ⟨j1, j2⟩ := kj_join hP hD hk1 hFc hP1 hD1
  exact kk a H1 locs1 hw ⟨j1, j2, hS1, hA⟩
theorem kr_callIN (C : kF G c p s m args c0 cc nL Ts own) {q : Nat} {e0 : va_E} (h : kH G A (ws ++ [(q, e0)]) s H locs) {y : MethodName} {wsY : List Cond} {rm : Room} {mc ms : Nat} {As : List Value} {w : (Nat → Nat) → va_W} (hM : kM l G c y wsY rm mc ms As e0 w) {host : String} {index maxL n : Nat} {bytes : ByteArray} (cw : va_CN R s args own index y host bytes maxL none wsY rm mc ms n ∧ y.name = "<init>" ∧ (Cond.instanceMethod y).before args s = true) (hn : As.length = n) (hls : ls.size = nL) {st0 : List Value} (hst : st0 = As.reverse ++ .ref q :: rest) (hW : (rest.map fun v => v.category).sum ≤ 8) (hdg : decode cc pc = .ok (.invokespecial index, 3)) (hf : cells + mc ≤ R.cells ∧ slots + ms ≤ R.slots)
    (kk : ∀ (a : Nat → Nat) (H1 : Heap) (locs1 : List Loc), a 0 = q → kH G A (ws ++ w a) s H1 locs1 → W p l e R s m args below meth c0 H1 locs1 (cells + mc) (slots + ms) Q (F0 m (pc + 3) ls rest)) : W p l e R s m args below meth c0 H locs cells slots Q (F0 m pc ls st0) := by
  obtain ⟨F, hK, hN⟩ := C
  obtain ⟨hPc, hDc, hFc⟩ := kr_last h
  obtain ⟨hP, hD, hS, hA⟩ := h
  refine va_callv (va_runIN (As := As) (rest := rest) F (hM q H.size) cw ⟨kB_blind, fun U hU hW => ⟨rfl, by rw [hU], by rw [hU]; exact hPc, va_K.moved hW.alike hK, hDc.weaken (fun _ _ _ _ => trivial), kN_warm hW hN⟩⟩ rfl hn hls hst (lv_room hW) hdg hf) hS (fun x _ h => hFc x h) hFc (fun a t H1 locs1 ht hvm hw hB hz1 hk1 hS1 => ?_)
  obtain ⟨hP1, hD1⟩ := hB
  rw [ht] at hP1
  obtain ⟨j1, j2⟩ := kj_join hP hD hk1 hFc hP1 hD1
  exact kk a H1 locs1 hw ⟨j1, j2, hS1, hA⟩
theorem kr_putF (C : kF G c p s m args c0 cc nL Ts own) (h : kH G A ws s H locs) (hin2 : meth.name = "<init>") (i : Nat) {a : Nat} {ci : Nat} {fs : List Value} (he : ws[i]? = some (a, .inr (ci, fs))) {T : u_T} {N : Nat} (hc : vwCl[ci]? = some (own, T, N)) (hin : ∀ w ∈ u_ws own T N, w ∈ Ts) (ty0 : Nat → FieldType) (hty : ∀ k, k < N → parseFieldDescriptor (T k).2.2.1 = some (ty0 k)) (hnm : ∀ a, a < N → ∀ b, b < N → a ≠ b → (T a).2.1 ≠ (T b).2.1) (k : Nat) (hk : k < N) {index : Nat} (hlink : Cond.fieldLink own index (T k).1 (T k).2.1 (T k).2.2.1 ∈ Ts) (hfin : (T k).2.2.2 = true) (hdecl : (T k).1 = own) {v : Value} (hn : narrow (ty0 k) v = v) (hfit : fits (ty0 k) v = true) (hl : k < fs.length) (hdg : decode cc pc = .ok (.putfield index, 3))
    (kk : ∀ (H1 : Heap) (locs1 : List Loc), kH G A (ws.set i (a, .inr (ci, fs.set k v))) s H1 locs1 → W p l e R s m args below meth c0 H1 locs1 cells slots Q (F0 m (pc + 3) ls rest)) : W p l e R s m args below meth c0 H locs cells slots Q (F0 m pc ls (v :: .ref a :: rest)) := by
  obtain ⟨⟨hx, hb, hml, hown, hts⟩, hK, hN'⟩ := C
  obtain ⟨hP, hD, hS, hA⟩ := h
  exact va_putF (D := G) hx hb hts hin ty0 hty hnm hown hK hP hD hS i he hc k hk (hts _ hlink) (fun _ z => z) hfin hin2 hdecl (hty k hk) hn hfit hl hdg (fun H1 locs1 hP1 hD1 hS1 => kk H1 locs1 ⟨hP1, hD1, hS1, hA⟩)
theorem kr_put (C : kF G c p s m args c0 cc nL Ts own) (h : kH G A ws s H locs) (i : Nat) {a : Nat} {ci : Nat} {fs : List Value} (he : ws[i]? = some (a, .inr (ci, fs))) {Cn : String} {T : u_T} {N : Nat} (hc : vwCl[ci]? = some (Cn, T, N)) (hin : ∀ w ∈ u_ws Cn T N, w ∈ Ts) (ty0 : Nat → FieldType) (hty : ∀ k, k < N → parseFieldDescriptor (T k).2.2.1 = some (ty0 k)) (hnm : ∀ a, a < N → ∀ b, b < N → a ≠ b → (T a).2.1 ≠ (T b).2.1) (k : Nat) (hk : k < N) {index : Nat} (hlink : Cond.fieldLink own index (T k).1 (T k).2.1 (T k).2.2.1 ∈ Ts) (hfin : (T k).2.2.2 = false) {v : Value} (hn : narrow (ty0 k) v = v) (hfit : fits (ty0 k) v = true) (hl : k < fs.length) (hdg : decode cc pc = .ok (.putfield index, 3))
    (kk : ∀ (H1 : Heap) (locs1 : List Loc), kH G A (ws.set i (a, .inr (ci, fs.set k v))) s H1 locs1 → W p l e R s m args below meth c0 H1 locs1 cells slots Q (F0 m (pc + 3) ls rest)) : W p l e R s m args below meth c0 H locs cells slots Q (F0 m pc ls (v :: .ref a :: rest)) := by
  obtain ⟨⟨hx, hb, hml, hown, hts⟩, hK, hN'⟩ := C
  obtain ⟨hP, hD, hS, hA⟩ := h
  exact va_put (D := G) hx hb hts hin ty0 hty hnm hown hK hP hD hS i he hc k hk (hts _ hlink) (fun _ z => z) hfin (hty k hk) hn hfit hl hdg (fun H1 locs1 hP1 hD1 hS1 => kk H1 locs1 ⟨hP1, hD1, hS1, hA⟩)
theorem kr_get (C : kF G c p s m args c0 cc nL Ts own) (h : kH G A ws s H locs) (i : Nat) {a : Nat} {ci : Nat} {fs : List Value} (he : ws[i]? = some (a, .inr (ci, fs))) {Cn : String} {T : u_T} {N : Nat} (hc : vwCl[ci]? = some (Cn, T, N)) (hin : ∀ w ∈ u_ws Cn T N, w ∈ Ts) (j : Nat) (hj : j < N) {index : Nat} (hlink : Cond.fieldLink own index (T j).1 (T j).2.1 (T j).2.2.1 ∈ Ts) {v : Value} (hv : fs[j]? = some v) (hdg : decode cc pc = .ok (.getfield index, 3))
    (kk : W p l e R s m args below meth c0 H locs cells slots Q (F0 m (pc + 3) ls (v :: rest))) : W p l e R s m args below meth c0 H locs cells slots Q (F0 m pc ls (.ref a :: rest)) := by
  obtain ⟨⟨hx, hb, hml, hown, hts⟩, hK, hN'⟩ := C
  exact va_get (D := G) hx hb hts hin hown hK h.1 i he hc j hj (hts _ hlink) (fun _ z => z) hv hdg kk
theorem kr_iast (C : kF G c p s m args c0 cc nL Ts own) (h : kH G A ws s H locs) (i : Nat) {a n : Nat} {f : Nat → Int32} (he : ws[i]? = some (a, .inl (c 0, n, .inl f))) (j : Nat) (hj : j < n) (hn : n ≤ 65536) {x : Int32} {ix : Int32} (hix : ix = nI j) (hdg : decode cc pc = .ok (.iastore, 1))
    (kk : ∀ (H1 : Heap) (locs1 : List Loc), kH G A (ws.set i (a, .inl (c 0, n, .inl (upd f j x)))) s H1 locs1 → W p l e R s m args below meth c0 H1 locs1 cells slots Q (F0 m (pc + 1) ls rest)) : W p l e R s m args below meth c0 H locs cells slots Q (F0 m pc ls (.int x :: .int ix :: .ref a :: rest)) := by
  obtain ⟨⟨hx, hb, hml, hown, hts⟩, hK, hN'⟩ := C
  obtain ⟨hP, hD, hS, hA⟩ := h
  subst hix
  refine va_iast (D := G) hx hb hK hP hD hS i 0 he rfl (vp_in_nI hj (by omega)) hdg (fun H1 locs1 hP1 hD1 hS1 => kk H1 locs1 ⟨?_, ?_, hS1, hA⟩)
  · rw [nI_clamp (by omega)] at hP1; exact hP1
  · rw [nI_clamp (by omega)] at hD1; exact hD1
theorem kr_ast (C : kF G c p s m args c0 cc nL Ts own) (h : kH G A ws s H locs) (i : Nat) (t : Nat) (r : vw_C) {a n v : Nat} {f : Nat → Option Nat} (he : ws[i]? = some (a, .inl (c t, n, .inr (.inr (.inr (.inr f)))))) (ht : (kTys c)[t]? = some (c t, .object r.1)) (k ci : Nat) {vs : List Value} (hv : ws[k]? = some (v, .inr (ci, vs))) (hc : vwCl[ci]? = some r) (j : Nat) (hj : j < n) (hn : n ≤ 65536) {ix : Int32} (hix : ix = nI j) (hdg : decode cc pc = .ok (.aastore, 1))
    (kk : ∀ (H1 : Heap) (locs1 : List Loc), kH G A (ws.set i (a, .inl (c t, n, .inr (.inr (.inr (.inr (va_up f j (some v)))))))) s H1 locs1 → W p l e R s m args below meth c0 H1 locs1 cells slots Q (F0 m (pc + 1) ls rest)) : W p l e R s m args below meth c0 H locs cells slots Q (F0 m pc ls (.ref v :: .int ix :: .ref a :: rest)) := by
  obtain ⟨⟨hx, hb, hml, hown, hts⟩, hK, hN'⟩ := C
  obtain ⟨hP, hD, hS, hA⟩ := h
  subst hix
  refine va_astq (D := G) (r := r) hx hb hK hP hD hS i t k ci he ht hv hc (vp_in_nI hj (by omega)) hdg (fun H1 locs1 hP1 hD1 hS1 => kk H1 locs1 ⟨?_, ?_, hS1, hA⟩)
  · rw [nI_clamp (by omega)] at hP1; exact hP1
  · rw [nI_clamp (by omega)] at hD1; exact hD1
theorem kr_ret {w : (Nat → Nat) → va_W} {h0 : Nat} (C : kF G c p s m args c0 cc nL Ts own) (h : kH G A ws s H locs) (hr : meth.sig.returnType = none) (hlocks : meth.locks = false) (a : Nat → Nat) (ha : a 0 = h0) (hw : ws = w a) (hdg : decode cc pc = .ok (.return_, 1)) : W p l e R s m args below meth c0 H locs cells slots (MQ below (va_Qv (fun a : Nat → Nat => a 0 = h0) (kQ G w A) A) args s cells slots A) (F0 m pc ls []) := by
  subst hw
  obtain ⟨hP, hD, hS, hA⟩ := h
  exact W.vret C.1.1 C.1.2.1 hr (fun t ht _ => ⟨⟨a, rfl, ha, by rw [ht]; exact hP, hD⟩, hS.F ht⟩) hS.2.2 hdg hlocks
end KR2
