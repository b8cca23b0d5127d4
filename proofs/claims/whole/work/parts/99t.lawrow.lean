/-! THE LAW: rows of its walk -/
def lC (E : uE) (S : uS) (b L : Nat) (xs : Nat → Int32) (p : Program) (s : State) (m : MethodId) (c : Code) : Prop :=
  uC E p s m #[Value.ref b] c code 4 wsL_law RL ∧ uT E S s s.heap ∧ va_X b L xs s s.heap ∧ b < s.heap.size ∧ ¬ uA E b ∧ L ≤ 448
section LR
variable {p : Program} {l : Launch} {e : Env} {s : State} {m : MethodId} {below : List Frame} {meth : Method} {c : Code} {H : Heap} {locs : List Loc} {Q : State → Prop} {E : uE} {S : uS} {M : uM} {b L : Nat} {xs : Nat → Int32} {pc : Nat} {ls : Array Slot} {rest : List Value}
theorem lr_sld (C : lC E S b L xs p s m c) (h : uH E M s H locs) (k : Nat) (hk : k < L) {ix : Int32} (hix : ix = nI k) (hdg : decode code pc = .ok (.iaload, 1))
    (kk : W p l e room_1 s m #[Value.ref b] below meth c H locs 263 4733 Q (F0 m (pc + 1) ls (.int (xs k) :: rest))) : W p l e room_1 s m #[Value.ref b] below meth c H locs 263 4733 Q (F0 m pc ls (.int ix :: .ref b :: rest)) := by
  subst hix
  have hL := C.2.2.2.2.2
  refine va_sld C.1.1.1 C.1.1.2.1 C.2.2.1 C.2.2.2.1 C.2.2.2.2.1 h.2 (vp_in_nI hk (by omega)) hdg ?_
  rw [nI_clamp (by omega)]
  exact kk
theorem lr_call (C : lC E S b L xs p s m c) (h : uH E M s H locs) {y : MethodName} {ws : List Cond} {rm : Room} {k : Nat} {As : List Value} {post : Int32 → uM → Prop} (hM : Met l y ws rm (va_Pc (.ref (E.2.1 k) :: As) (uB E M)) (va_Qi post (uP E) (uA E)) 0 0 (uA E)) {Cn : String} {index maxL n : Nat} {bytes : ByteArray} {ret : Option FieldType} (cw : CallW room_1 s #[Value.ref b] RL Cn index y bytes maxL ret ws rm 0 0 n) (hk : k < 263) {ci : Nat} {fs : List Value} (he : uCell E M k = .inr (ci, fs)) {T : u_T} {N : Nat} (hc : vwCl[ci]? = some (Cn, T, N)) (hn : As.length = n) (hls : ls.size = 4) {st0 : List Value} (hst : st0 = As.reverse ++ .ref (E.2.1 k) :: rest) (hW : (rest.map fun v => v.category).sum ≤ 8) (hdg : decode code pc = .ok (.invokevirtual index, 3))
    (kk : ∀ (r : Int32) (M' : uM) (H1 : Heap) (locs1 : List Loc), post r M' → uH E M' s H1 locs1 → W p l e room_1 s m #[Value.ref b] below meth c H1 locs1 263 4733 Q (F0 m (pc + 3) ls (.int r :: rest))) : W p l e room_1 s m #[Value.ref b] below meth c H locs 263 4733 Q (F0 m pc ls st0) := by
  obtain ⟨⟨F, hK, hN, hI⟩, -⟩ := C
  refine va_calli (va_runV (As := As) (rest := rest) F hM cw ⟨uB_blind, va_recv hK h.1 (ci := ci) (q0 := k) hc ((uw_at E M hk).trans (by rw [he])), fun U hU hW => ⟨rfl, uB_at hK hN h hU hW⟩⟩ rfl hn hls hst (lv_room hW) hdg ⟨Nat.le_of_ble_eq_true rfl, Nat.le_of_ble_eq_true rfl⟩) h.2 (fun q _ h => h) (fun q h => h) (fun r u t H1 locs1 ht _ hw hB _ _ hS => kk r u H1 locs1 hw ⟨?_, hS⟩)
  rw [← ht]; exact hB
theorem lr_callT (C : lC E S b L xs p s m c) (h : uH E M s H locs) {y : MethodName} {ws : List Cond} {rm : Room} {k : Nat} {As : List Value} {post : Int32 → uM → Prop} (hM : Met l y ws rm (va_Pc (.ref (E.2.1 k) :: As) (uBt E S M)) (va_Qi post (uP E) (uA E)) 0 0 (uA E)) {Cn : String} {index maxL n : Nat} {bytes : ByteArray} {ret : Option FieldType} (cw : CallW room_1 s #[Value.ref b] RL Cn index y bytes maxL ret ws rm 0 0 n) (hk : k < 263) {ci : Nat} {fs : List Value} (he : uCell E M k = .inr (ci, fs)) {T : u_T} {N : Nat} (hc : vwCl[ci]? = some (Cn, T, N)) (hn : As.length = n) (hls : ls.size = 4) {st0 : List Value} (hst : st0 = As.reverse ++ .ref (E.2.1 k) :: rest) (hW : (rest.map fun v => v.category).sum ≤ 8) (hdg : decode code pc = .ok (.invokevirtual index, 3))
    (kk : ∀ (r : Int32) (M' : uM) (H1 : Heap) (locs1 : List Loc), post r M' → uH E M' s H1 locs1 → W p l e room_1 s m #[Value.ref b] below meth c H1 locs1 263 4733 Q (F0 m (pc + 3) ls (.int r :: rest))) : W p l e room_1 s m #[Value.ref b] below meth c H locs 263 4733 Q (F0 m pc ls st0) := by
  obtain ⟨⟨F, hK, hN, hI⟩, hT, -⟩ := C
  refine va_calli (va_runV (As := As) (rest := rest) F hM cw ⟨uBt_blind, va_recv hK h.1 (ci := ci) (q0 := k) hc ((uw_at E M hk).trans (by rw [he])), fun U hU hW => ⟨rfl, uBt_at hK hN hT h hU hW⟩⟩ rfl hn hls hst (lv_room hW) hdg ⟨Nat.le_of_ble_eq_true rfl, Nat.le_of_ble_eq_true rfl⟩) h.2 (fun q _ h => h) (fun q h => h) (fun r u t H1 locs1 ht _ hw hB _ _ hS => kk r u H1 locs1 hw ⟨?_, hS⟩)
  rw [← ht]; exact hB
end LR
