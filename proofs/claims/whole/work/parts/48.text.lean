/-! TEXTS: the class's six string constants beside the world; a method that reads them has the pre uBt. -/
abbrev uS : Type := (Nat → Nat) × (Nat → Nat)
def tLen : List Nat := [10, 1, 1, 5, 2, 6]
def tByt : List (List Int32) := [[48, 49, 50, 51, 52, 53, 54, 55, 56, 57], [59], [44], [112, 99, 116, 109, 104], [48, 49], [97, 98, 99, 100, 101, 102]]
theorem tLen_le : ∀ k, k < 6 → tLen.getD k 0 ≤ 10 := by decide
def uR (S : uS) (U : State) : Prop := vk_R RX5 32 "0123456789" (S.1 0) U ∧ vk_R RX5 41 ";" (S.1 1) U ∧ vk_R RX5 53 "," (S.1 2) U ∧ vk_R RX5 55 "pctmh" (S.1 3) U ∧ vk_R RX5 57 "01" (S.1 4) U ∧ vk_R RX5 74 "abcdef" (S.1 5) U
def uT (E : uE) (S : uS) (U : State) (H : Heap) : Prop := vk_S 6 tLen tByt S.1 S.2 (uA E) U H ∧ va_Z "java/lang/String" "COMPACT_STRINGS" "Z" (.int 1) (uA E) U H ∧ uR S U
def uBt (E : uE) (S : uS) (M : uM) (U : State) : Prop := uB E M U ∧ uT E S U U.heap
theorem uBt_blind {E : uE} {S : uS} {M : uM} {as : List Value} : FrameBlind (va_Pc as (uBt E S M)) := by
  intro a U g mk q
  obtain ⟨q0, qB, qS, qZ, r0, r1, r2, r3, r4, r5⟩ := q
  obtain ⟨-, w⟩ := uB_blind (E := E) (M := M) (as := as) a U g mk ⟨q0, qB⟩
  exact ⟨q0, w, vk_S.moved (u := U) (U := U.calling g mk a) (Vm.Alike.refl U.vm) qS, va_Z.moved (u := U) (U := U.calling g mk a) (Vm.Alike.refl U.vm) qZ, vk_R.same rfl r0, vk_R.same rfl r1, vk_R.same rfl r2, vk_R.same rfl r3, vk_R.same rfl r4, vk_R.same rfl r5⟩
theorem uBt_at {E : uE} {S : uS} {M : uM} {s U : State} {H : Heap} {locs : List Loc} (hK : va_K E.1 vwCl (uTys E) s) (hN : uN s) (hT : uT E S s s.heap) (h : uH E M s H locs) (hU : U.heap = H) (hW : s.WarmedH U.vm) : uBt E S M U := by
  refine ⟨uB_at hK hN h hU hW, ?_, ?_, ?_⟩
  · rw [hU]; exact vk_S.moved hW.alike (vk_S.kept hT.1 h.2.2.1)
  · rw [hU]; exact va_Z.moved hW.alike (va_Z.kept hT.2.1 h.2.2.1)
  · obtain ⟨r0, r1, r2, r3, r4, r5⟩ := hT.2.2
    exact ⟨vk_R.warm hW r0, vk_R.warm hW r1, vk_R.warm hW r2, vk_R.warm hW r3, vk_R.warm hW r4, vk_R.warm hW r5⟩
theorem u_startT {l : Launch} {E : uE} {S : uS} {M : uM} {y : MethodName} {ws ws' : List Cond} {rm : Room} {Qc : Array Value → State → Outcome → State → Prop} {cc : ByteArray} {maxL : Nat} {ret : Option FieldType} {as : List Value} (hI : uI E) (hy : plainName y.cls = true) (hw : ws = Cond.code y cc maxL ret :: ws') (hlen : (lg_sl as).length ≤ maxL)
    (body : ∀ (p : Program) (e : Env) (s : State) (m : MethodId) (below : List Frame) (meth : Method) (c : Code), uC E p s m as.toArray c cc maxL ws y.cls → uT E S s s.heap → meth.sig.returnType = ret → meth.locks = false → uH E M s s.heap [] → ∀ ls : Array Slot, lv_has ls maxL (lv_args 0 as) →
      W p l e rm s m as.toArray below meth c s.heap [] 0 0 (MQ below Qc as.toArray s 0 0 (uA E)) (F0 m 0 ls [])) : Met l y ws rm (va_Pc as (uBt E S M)) Qc 0 0 (uA E) := by
  refine Met.ofW (cc := cc) (maxL := maxL) (ret := ret) hy hw ?_
  intro p e s m args below meth c s₁ B hml hv
  obtain ⟨rfl, ⟨hP, hK, hN⟩, hT⟩ := hv
  have hl := lv_entry as (n := maxL) hlen
  rw [lg_entry_eq]
  generalize (lg_sl as ++ List.replicate (maxL - (lg_sl as).length) Slot.unset).toArray = ls at hl ⊢
  exact body p e s m below meth c ⟨⟨B.exec, B.bytes, hml, findClass_of_methodNamed B.named, atoms_spec (ws := ws) B.pre⟩, hK, hN, hI⟩ hT B.returns B.notSynchronized ⟨hP, va_S.rf⟩ ls hl
section URT
variable {p : Program} {l : Launch} {e : Env} {R : Room} {s : State} {m : MethodId} {args : Array Value} {below : List Frame} {meth : Method} {c : Code} {H : Heap} {locs : List Loc} {Q : State → Prop} {E : uE} {S : uS} {M : uM} {cc : ByteArray} {nL : Nat} {Ts : List Cond} {own : String} {pc : Nat} {ls : Array Slot} {rest : List Value}
/-- a call on a cell of the world, of a method that reads texts -/
theorem ut_callVi (C : uC E p s m args c cc nL Ts own) (hT : uT E S s s.heap) (h : uH E M s H locs) {y : MethodName} {ws : List Cond} {rm : Room} {k : Nat} {As : List Value} {post : Int32 → uM → Prop} (hM : Met l y ws rm (va_Pc (.ref (E.2.1 k) :: As) (uBt E S M)) (va_Qi post (uP E) (uA E)) 0 0 (uA E)) {Cn : String} {index maxL n : Nat} {bytes : ByteArray} {ret : Option FieldType} (cw : CallW R s args own Cn index y bytes maxL ret ws rm 0 0 n) (hk : k < 263) {ci : Nat} {fs : List Value} (he : uCell E M k = .inr (ci, fs)) {T : u_T} {N : Nat} (hc : vwCl[ci]? = some (Cn, T, N)) (hn : As.length = n) (hls : ls.size = nL) {st0 : List Value} (hst : st0 = As.reverse ++ .ref (E.2.1 k) :: rest) (hW : (rest.map fun v => v.category).sum ≤ 8) (hdg : decode cc pc = .ok (.invokevirtual index, 3))
    (kk : ∀ (r : Int32) (M' : uM) (H1 : Heap) (locs1 : List Loc), post r M' → uH E M' s H1 locs1 → W p l e R s m args below meth c H1 locs1 0 0 Q (F0 m (pc + 3) ls (.int r :: rest))) : W p l e R s m args below meth c H locs 0 0 Q (F0 m pc ls st0) := by
  obtain ⟨F, hK, hN, hI⟩ := C
  refine va_calli (va_runV (As := As) (rest := rest) F hM cw ⟨uBt_blind, va_recv hK h.1 (ci := ci) (q0 := k) hc ((uw_at E M hk).trans (by rw [he])), fun U hU hW => ⟨rfl, uBt_at hK hN hT h hU hW⟩⟩ rfl hn hls hst (lv_room hW) hdg ⟨Nat.zero_le _, Nat.zero_le _⟩) h.2 (fun q _ h => h) (fun q h => h) (fun r u t H1 locs1 ht _ hw hB _ _ hS => kk r u H1 locs1 hw ⟨?_, hS⟩)
  rw [← ht]; exact hB
/-- a call on a text -/
theorem ut_callTi (C : uC E p s m args c cc nL Ts own) (hT : uT E S s s.heap) (h : uH E M s H locs) {y : MethodName} {ws : List Cond} {rm : Room} {k : Nat} (hk : k < 6) {As : List Value} {post : Int32 → uM → Prop} (hM : Met l y ws rm (va_Pc (.ref (S.1 k) :: As) (uBt E S M)) (va_Qi post (uP E) (uA E)) 0 0 (uA E)) {index maxL n : Nat} {bytes : ByteArray} {ret : Option FieldType} (cw : CallW R s args own "java/lang/String" index y bytes maxL ret ws rm 0 0 n) (hn : As.length = n) (hls : ls.size = nL) {st0 : List Value} (hst : st0 = As.reverse ++ .ref (S.1 k) :: rest) (hW : (rest.map fun v => v.category).sum ≤ 8) (hdg : decode cc pc = .ok (.invokevirtual index, 3))
    (kk : ∀ (r : Int32) (M' : uM) (H1 : Heap) (locs1 : List Loc), post r M' → uH E M' s H1 locs1 → W p l e R s m args below meth c H1 locs1 0 0 Q (F0 m (pc + 3) ls (.int r :: rest))) : W p l e R s m args below meth c H locs 0 0 Q (F0 m pc ls st0) := by
  obtain ⟨F, hK, hN, hI⟩ := C
  refine va_calli (va_runV (As := As) (rest := rest) F hM cw ⟨uBt_blind, vk_recv hT.1 hk h.2, fun U hU hW => ⟨rfl, uBt_at hK hN hT h hU hW⟩⟩ rfl hn hls hst (lv_room hW) hdg ⟨Nat.zero_le _, Nat.zero_le _⟩) h.2 (fun q _ h => h) (fun q h => h) (fun r u t H1 locs1 ht _ hw hB _ _ hS => kk r u H1 locs1 hw ⟨?_, hS⟩)
  rw [← ht]; exact hB
theorem ut_callSi (C : uC E p s m args c cc nL Ts own) (hT : uT E S s s.heap) (h : uH E M s H locs) {y : MethodName} {ws : List Cond} {rm : Room} {As : List Value} {post : Int32 → uM → Prop} (hM : Met l y ws rm (va_Pc As (uBt E S M)) (va_Qi post (uP E) (uA E)) 0 0 (uA E)) {index maxL n : Nat} {bytes : ByteArray} {ret : Option FieldType} (cw : CallB R s args own index y bytes maxL ret ws rm 0 0 n ∧ (Cond.static y).before args s = true) (hn : As.length = n) (hls : ls.size = nL) {st0 : List Value} (hst : st0 = As.reverse ++ rest) (hW : (rest.map fun v => v.category).sum ≤ 8) (hdg : decode cc pc = .ok (.invokestatic index, 3))
    (kk : ∀ (r : Int32) (M' : uM) (H1 : Heap) (locs1 : List Loc), post r M' → uH E M' s H1 locs1 → W p l e R s m args below meth c H1 locs1 0 0 Q (F0 m (pc + 3) ls (.int r :: rest))) : W p l e R s m args below meth c H locs 0 0 Q (F0 m pc ls st0) := by
  obtain ⟨F, hK, hN, hI⟩ := C
  refine va_calli (va_runS (As := As) (rest := rest) F hM cw ⟨uBt_blind, fun U hU hW => ⟨rfl, uBt_at hK hN hT h hU hW⟩⟩ rfl hn hls hst (lv_room hW) hdg ⟨Nat.zero_le _, Nat.zero_le _⟩) h.2 (fun q _ h => h) (fun q h => h) (fun r u t H1 locs1 ht _ hw hB _ _ hS => kk r u H1 locs1 hw ⟨?_, hS⟩)
  rw [← ht]; exact hB
/-- String's fields, its bytes -/
theorem ut_coder (C : uC E p s m args c cc nL Ts own) (hT : uT E S s s.heap) (h : uH E M s H locs) {k : Nat} (hk : k < 6) {index : Nat} (hlink : Cond.fieldLink own index "java/lang/String" "coder" "B" ∈ Ts) (hdg : decode cc pc = .ok (.getfield index, 3))
    (kk : W p l e R s m args below meth c H locs 0 0 Q (F0 m (pc + 3) ls (.int 0 :: rest))) : W p l e R s m args below meth c H locs 0 0 Q (F0 m pc ls (.ref (S.1 k) :: rest)) :=
  vk_getf C.1.1 C.1.2.1 (hT.1.1 k hk).2.1 h.2 C.1.2.2.2.1 (C.1.2.2.2.2 _ hlink) (fun _ z => z) hdg kk
theorem ut_value (C : uC E p s m args c cc nL Ts own) (hT : uT E S s s.heap) (h : uH E M s H locs) {k : Nat} (hk : k < 6) {index : Nat} (hlink : Cond.fieldLink own index "java/lang/String" "value" "[B" ∈ Ts) (hdg : decode cc pc = .ok (.getfield index, 3))
    (kk : W p l e R s m args below meth c H locs 0 0 Q (F0 m (pc + 3) ls (.ref (S.2 k) :: rest))) : W p l e R s m args below meth c H locs 0 0 Q (F0 m pc ls (.ref (S.1 k) :: rest)) :=
  vk_getf C.1.1 C.1.2.1 (hT.1.1 k hk).2.2.1 h.2 C.1.2.2.2.1 (C.1.2.2.2.2 _ hlink) (fun _ z => z) hdg kk
theorem ut_compact (C : uC E p s m args c cc nL Ts own) (hT : uT E S s s.heap) (h : uH E M s H locs) {index : Nat} (hlink : Cond.fieldLink own index "java/lang/String" "COMPACT_STRINGS" "Z" ∈ Ts) (hdg : decode cc pc = .ok (.getstatic index, 3))
    (kk : W p l e R s m args below meth c H locs 0 0 Q (F0 m (pc + 3) ls (.int 1 :: rest))) : W p l e R s m args below meth c H locs 0 0 Q (F0 m pc ls rest) :=
  va_gets C.1.1 C.1.2.1 hT.2.1 h.2 C.1.2.2.2.1 (C.1.2.2.2.2 _ hlink) (fun _ z => z) hdg kk
theorem ut_len (C : uC E p s m args c cc nL Ts own) (hT : uT E S s s.heap) (h : uH E M s H locs) {k : Nat} (hk : k < 6) (hdg : decode cc pc = .ok (.arraylength, 1))
    (kk : W p l e R s m args below meth c H locs 0 0 Q (F0 m (pc + 1) ls (.int (nI (tLen.getD k 0)) :: rest))) : W p l e R s m args below meth c H locs 0 0 Q (F0 m pc ls (.ref (S.2 k) :: rest)) :=
  va_tlen C.1.1 C.1.2.1 (hT.1.1 k hk).2.2.2 h.2 rfl hdg kk
theorem ut_byte (C : uC E p s m args c cc nL Ts own) (hT : uT E S s s.heap) (h : uH E M s H locs) {k : Nat} (hk : k < 6) (i : Nat) (hi : i < tLen.getD k 0) (hi2 : i < 65536) (hdg : decode cc pc = .ok (.baload, 1))
    (kk : W p l e R s m args below meth c H locs 0 0 Q (F0 m (pc + 1) ls (.int ((tByt.getD k []).getD i 0) :: rest))) : W p l e R s m args below meth c H locs 0 0 Q (F0 m pc ls (.int (nI i) :: .ref (S.2 k) :: rest)) := by
  refine va_tb C.1.1 C.1.2.1 (hT.1.1 k hk).2.2.2 h.2 (vp_in_nI hi (by have := tLen_le k hk; omega)) (v := .int ((tByt.getD k []).getD i 0)) (by rw [nI_clamp (by omega)]) hdg kk
end URT
/-- where a letter stands in text k: from place j on, f places looked at -/
def tIxF (k : Nat) (c : Int32) : Nat → Nat → Int32
  | _, 0 => -1
  | j, f + 1 => if (tByt.getD k []).getD j 0 = c then nI j else tIxF k c (j + 1) f
def tIx (k : Nat) (c : Int32) : Int32 := if c < 0 then -1 else if 255 < c then -1 else tIxF k c.toInt8.toInt32 0 (tLen.getD k 0)
theorem t_shr : ∀ k : Fin 6, (nI (tLen.getD k.val 0)) >>> ((0 : Int32) &&& 31) = nI (tLen.getD k.val 0) := by decide +kernel
/-! a tape of letters L, n of them: the place behind blanks, the letter there -/
def tSkF (L : Nat → Int32) (n : Nat) : Nat → Nat → Nat
  | p, 0 => p
  | p, f + 1 => if L p = 32 then tSkF L n (p + 1) f else p
def tSk (L : Nat → Int32) (n p : Nat) : Nat := tSkF L n p (n - p)
def tAt (L : Nat → Int32) (n p : Nat) : Int32 := if tSk L n p < n then L (tSk L n p) else 0
theorem tSk_step {L : Nat → Int32} {n q : Nat} (h : q < n) (h2 : L q = 32) : tSk L n (q + 1) = tSk L n q := by
  unfold tSk
  rw [show n - q = n - (q + 1) + 1 by omega, tSkF, if_pos h2]
theorem tSk_end {L : Nat → Int32} {n q : Nat} (h : n ≤ q) : tSk L n q = q := by
  unfold tSk
  rw [show n - q = 0 by omega]; rfl
theorem tSk_stop {L : Nat → Int32} {n q : Nat} (h : q < n) (h2 : ¬ L q = 32) : tSk L n q = q := by
  unfold tSk
  rw [show n - q = n - (q + 1) + 1 by omega, tSkF, if_neg h2]
theorem tSkF_le (L : Nat → Int32) (n : Nat) : ∀ f p, p ≤ tSkF L n p f ∧ tSkF L n p f ≤ p + f
  | 0, p => ⟨Nat.le_refl _, Nat.le_refl _⟩
  | f + 1, p => by
    unfold tSkF
    split
    · have := tSkF_le L n f (p + 1); omega
    · omega
theorem tSk_le (L : Nat → Int32) {n p : Nat} (h : p ≤ n) : p ≤ tSk L n p ∧ tSk L n p ≤ n := by
  have := tSkF_le L n (n - p) p
  unfold tSk; omega
theorem u_set_self {M : uM} {k j : Nat} {x : Int32} (h : M.1 k j = x) : uSet M k j x = M := by
  subst h
  refine Prod.ext ?_ rfl
  funext a b
  show va_up M.1 k (upd (M.1 k) j (M.1 k j)) a b = M.1 a b
  by_cases ha : a = k
  · subst ha
    rw [va_up_s]
    unfold upd
    by_cases hb : b = j
    · subst hb; simp
    · simp [hb]
  · rw [va_up_n ha]
theorem u_set_set (M : uM) (k j : Nat) (x y : Int32) : uSet (uSet M k j x) k j y = uSet M k j y := by
  refine Prod.ext ?_ rfl
  funext a b
  show va_up (va_up M.1 k (upd (M.1 k) j x)) k (upd (va_up M.1 k (upd (M.1 k) j x) k) j y) a b = va_up M.1 k (upd (M.1 k) j y) a b
  by_cases ha : a = k
  · subst ha
    rw [va_up_s, va_up_s, va_up_s]
    unfold upd
    by_cases hb : b = j
    · subst hb; simp
    · simp [hb]
  · rw [va_up_n ha, va_up_n ha, va_up_n ha]
theorem tIx0 : ∀ k, k < 6 → tIx k 0 = -1 := by decide +kernel
theorem tIx_lt {L : Nat → Int32} {n p k : Nat} (hk : k < 6) (hp : p ≤ n) (h : ¬ tIx k (tAt L n p) < 0) : tSk L n p < n := by
  rcases Nat.lt_or_ge (tSk L n p) n with z | z
  · exact z
  · unfold tAt at h
    rw [if_neg (by omega), tIx0 k hk] at h
    exact absurd (by decide) h
