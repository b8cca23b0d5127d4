/-! moments: cells by a number that is a variable -/
def uMom (q : Nat) : Prop := ∃ f p, f < 3 ∧ p < 9 ∧ q = 7 + 78 * f + 8 * p
theorem uMom_lt {q : Nat} (h : uMom q) : q + 7 < 235 := by
  obtain ⟨f, p, hf, hp, rfl⟩ := h
  omega
theorem uMom_c {P : Nat → Prop} (h : ∀ f : Fin 3, ∀ p : Fin 9, P (7 + 78 * f.val + 8 * p.val)) {q : Nat} (hq : uMom q) : P q := by
  obtain ⟨f, p, hf, hp, rfl⟩ := hq
  exact h ⟨f, hf⟩ ⟨p, hp⟩
theorem uMom27 {P : Nat → Prop} (h7 : P 7) (h15 : P 15) (h23 : P 23) (h31 : P 31) (h39 : P 39) (h47 : P 47) (h55 : P 55) (h63 : P 63) (h71 : P 71) (g7 : P 85) (g15 : P 93) (g23 : P 101) (g31 : P 109) (g39 : P 117) (g47 : P 125) (g55 : P 133) (g63 : P 141) (g71 : P 149) (k7 : P 163) (k15 : P 171) (k23 : P 179) (k31 : P 187) (k39 : P 195) (k47 : P 203) (k55 : P 211) (k63 : P 219) (k71 : P 227) {q : Nat} (hq : uMom q) : P q := by
  obtain ⟨f, p, hf, hp, rfl⟩ := hq
  rcases (show f = 0 ∨ f = 1 ∨ f = 2 by omega) with rfl | rfl | rfl <;> rcases (show p = 0 ∨ p = 1 ∨ p = 2 ∨ p = 3 ∨ p = 4 ∨ p = 5 ∨ p = 6 ∨ p = 7 ∨ p = 8 by omega) with rfl | rfl | rfl | rfl | rfl | rfl | rfl | rfl | rfl <;> assumption
theorem uc_m0 {q : Nat} (hq : uMom q) (E : uE) (M : uM) : uCell E M q = .inr (3, [.ref (E.2.1 (q + 1)), .ref (E.2.1 (q + 2)), .ref (E.2.1 (q + 3)), .ref (E.2.1 (q + 4)), .int (M.1 q 4), .int (M.1 q 5)]) := by
  revert hq; exact uMom27 (P := fun q => uCell E M q = .inr (3, [.ref (E.2.1 (q + 1)), .ref (E.2.1 (q + 2)), .ref (E.2.1 (q + 3)), .ref (E.2.1 (q + 4)), .int (M.1 q 4), .int (M.1 q 5)])) rfl rfl rfl rfl rfl rfl rfl rfl rfl rfl rfl rfl rfl rfl rfl rfl rfl rfl rfl rfl rfl rfl rfl rfl rfl rfl rfl
theorem uc_m1 {q : Nat} (hq : uMom q) (E : uE) (M : uM) : uCell E M (q + 1) = .inl (E.2.2 0, 6, .inl (M.1 (q + 1))) := by
  revert hq; exact uMom27 (P := fun q => uCell E M (q + 1) = .inl (E.2.2 0, 6, .inl (M.1 (q + 1)))) rfl rfl rfl rfl rfl rfl rfl rfl rfl rfl rfl rfl rfl rfl rfl rfl rfl rfl rfl rfl rfl rfl rfl rfl rfl rfl rfl
theorem uc_m2 {q : Nat} (hq : uMom q) (E : uE) (M : uM) : uCell E M (q + 2) = .inl (E.2.2 0, 6, .inl (M.1 (q + 2))) := by
  revert hq; exact uMom27 (P := fun q => uCell E M (q + 2) = .inl (E.2.2 0, 6, .inl (M.1 (q + 2)))) rfl rfl rfl rfl rfl rfl rfl rfl rfl rfl rfl rfl rfl rfl rfl rfl rfl rfl rfl rfl rfl rfl rfl rfl rfl rfl rfl
theorem uc_m3 {q : Nat} (hq : uMom q) (E : uE) (M : uM) : uCell E M (q + 3) = .inl (E.2.2 0, 6, .inl (M.1 (q + 3))) := by
  revert hq; exact uMom27 (P := fun q => uCell E M (q + 3) = .inl (E.2.2 0, 6, .inl (M.1 (q + 3)))) rfl rfl rfl rfl rfl rfl rfl rfl rfl rfl rfl rfl rfl rfl rfl rfl rfl rfl rfl rfl rfl rfl rfl rfl rfl rfl rfl
theorem uc_m4 {q : Nat} (hq : uMom q) (E : uE) (M : uM) : uCell E M (q + 4) = .inr (0, [.int (M.1 (q + 4) 0), .ref (E.2.1 (q + 5)), .ref (E.2.1 (q + 6)), .ref (E.2.1 (q + 7))]) := by
  revert hq; exact uMom27 (P := fun q => uCell E M (q + 4) = .inr (0, [.int (M.1 (q + 4) 0), .ref (E.2.1 (q + 5)), .ref (E.2.1 (q + 6)), .ref (E.2.1 (q + 7))])) rfl rfl rfl rfl rfl rfl rfl rfl rfl rfl rfl rfl rfl rfl rfl rfl rfl rfl rfl rfl rfl rfl rfl rfl rfl rfl rfl
theorem uc_m5 {q : Nat} (hq : uMom q) (E : uE) (M : uM) : uCell E M (q + 5) = .inl (E.2.2 0, 12, .inl (M.1 (q + 5))) := by
  revert hq; exact uMom27 (P := fun q => uCell E M (q + 5) = .inl (E.2.2 0, 12, .inl (M.1 (q + 5)))) rfl rfl rfl rfl rfl rfl rfl rfl rfl rfl rfl rfl rfl rfl rfl rfl rfl rfl rfl rfl rfl rfl rfl rfl rfl rfl rfl
theorem uc_m6 {q : Nat} (hq : uMom q) (E : uE) (M : uM) : uCell E M (q + 6) = .inl (E.2.2 0, 12, .inl (M.1 (q + 6))) := by
  revert hq; exact uMom27 (P := fun q => uCell E M (q + 6) = .inl (E.2.2 0, 12, .inl (M.1 (q + 6)))) rfl rfl rfl rfl rfl rfl rfl rfl rfl rfl rfl rfl rfl rfl rfl rfl rfl rfl rfl rfl rfl rfl rfl rfl rfl rfl rfl
theorem uc_m7 {q : Nat} (hq : uMom q) (E : uE) (M : uM) : uCell E M (q + 7) = .inl (E.2.2 0, 12, .inl (M.1 (q + 7))) := by
  revert hq; exact uMom27 (P := fun q => uCell E M (q + 7) = .inl (E.2.2 0, 12, .inl (M.1 (q + 7)))) rfl rfl rfl rfl rfl rfl rfl rfl rfl rfl rfl rfl rfl rfl rfl rfl rfl rfl rfl rfl rfl rfl rfl rfl rfl rfl rfl
theorem us_m0_4 {q : Nat} (hq : uMom q) (E : uE) (M : uM) (x : Int32) : (.inr (3, List.set [.ref (E.2.1 (q + 1)), .ref (E.2.1 (q + 2)), .ref (E.2.1 (q + 3)), .ref (E.2.1 (q + 4)), .int (M.1 q 4), .int (M.1 q 5)] 4 (.int x)) : va_E) = uCell E (uSet M q 4 x) q := by
  rw [uc_m0 hq]
  simp [uSet, va_up, upd]
theorem us_m0_5 {q : Nat} (hq : uMom q) (E : uE) (M : uM) (x : Int32) : (.inr (3, List.set [.ref (E.2.1 (q + 1)), .ref (E.2.1 (q + 2)), .ref (E.2.1 (q + 3)), .ref (E.2.1 (q + 4)), .int (M.1 q 4), .int (M.1 q 5)] 5 (.int x)) : va_E) = uCell E (uSet M q 5 x) q := by
  rw [uc_m0 hq]
  simp [uSet, va_up, upd]
theorem us_m4_0 {q : Nat} (hq : uMom q) (E : uE) (M : uM) (x : Int32) : (.inr (0, List.set [.int (M.1 (q + 4) 0), .ref (E.2.1 (q + 5)), .ref (E.2.1 (q + 6)), .ref (E.2.1 (q + 7))] 0 (.int x)) : va_E) = uCell E (uSet M (q + 4) 0 x) (q + 4) := by
  rw [uc_m4 hq]
  simp [uSet, va_up, upd]
theorem u_setP1 (M : uM) (k j x : Nat) : (uSetP M k j x).1 = M.1 := rfl
theorem u_in32 {x : Int} {v lo hi : Int32} {a b : Int} {r : Int32} (hx : v.toInt = x) (ha : lo.toInt = a) (hb : hi.toInt = b) (e : r = if lo.toInt ≤ v.toInt ∧ v.toInt ≤ hi.toInt then 1 else 0) : r = if a ≤ x ∧ x ≤ b then 1 else 0 := by
  rw [e, ha, hb, hx]
section URA
variable {p : Program} {l : Launch} {e : Env} {R : Room} {s : State} {m : MethodId} {args : Array Value} {below : List Frame} {meth : Method} {c : Code} {H : Heap} {locs : List Loc} {Q : State → Prop} {E : uE} {M : uM} {cc : ByteArray} {nL : Nat} {Ts : List Cond} {own : String} {pc : Nat} {ls : Array Slot} {rest : List Value}
/-- a moment put among the past ones -/
theorem ur_aast (C : uC E p s m args c cc nL Ts own) (h : uH E M s H locs) (k : Nat) (hk : k < 263) {n : Nat} (he : ∀ M' : uM, uCell E M' k = .inl (E.2.2 3, n, .inr (.inr (.inr (.inr (fun i => some (E.2.1 (M'.2.2 k i)))))))) (i : Nat) (hi : i < n) (hn : n ≤ 65536) (v : Nat) (hv : v < 263) {vs : List Value} (hev : uCell E M v = .inr (3, vs)) (hdg : decode cc pc = .ok (.aastore, 1))
    (kk : ∀ (M' : uM) (H1 : Heap) (locs1 : List Loc), M' = uSetP M k i v → uH E M' s H1 locs1 → W p l e R s m args below meth c H1 locs1 0 0 Q (F0 m (pc + 1) ls rest)) : W p l e R s m args below meth c H locs 0 0 Q (F0 m pc ls (.ref (E.2.1 v) :: .int (nI i) :: .ref (E.2.1 k) :: rest)) := by
  obtain ⟨⟨hx, hb, hml, hown, hts⟩, hK, hN, hI⟩ := C
  refine va_astq (D := E.1) (r := (RX3, TX3, 6)) hx hb hK h.1 (uw_D hI M) h.2 k 3 v 3 ((uw_at E M hk).trans (by rw [he])) rfl ((uw_at E M hv).trans (by rw [hev])) rfl (vp_in_nI hi (by omega)) hdg (fun H1 locs1 hP hD hS => kk _ H1 locs1 rfl ⟨?_, hS⟩)
  rw [nI_clamp (by omega)] at hP
  have hf : va_up (fun i => some (E.2.1 (M.2.2 k i))) i (some (E.2.1 v)) = fun j => some (E.2.1 ((uSetP M k i v).2.2 k j)) := by
    funext j
    show va_up _ i _ j = some (E.2.1 (va_up M.2.2 k (va_up (M.2.2 k) i v) k j))
    rw [va_up_s]
    by_cases hj : j = i
    · subst hj; rw [va_up_s, va_up_s]
    · rw [va_up_n hj, va_up_n hj]
  rwa [uw_set (M' := uSetP M k i v) (by rw [he, hf]) (fun j hj => uCell_setP E M v hj)] at hP
end URA
