theorem uFillL_1 (M : uM) (k b : Nat) (v : Int64) : ∀ n, (uFillL M k b v n).1 = M.1 ∧ (uFillL M k b v n).2.2 = M.2.2
  | 0 => ⟨rfl, rfl⟩
  | n + 1 => uFillL_1 M k b v n
theorem uFillL_far {M : uM} {k b a : Nat} {v : Int64} (h : a ≠ k) : ∀ n, (uFillL M k b v n).2.1 a = M.2.1 a
  | 0 => rfl
  | n + 1 => by
    show (uSetL (uFillL M k b v n) k (b + n) v).2.1 a = _
    rw [u_setL1, if_neg h]; exact uFillL_far h n
theorem uFillL_at {M : uM} {k b : Nat} {v : Int64} (j : Nat) : ∀ n, (uFillL M k b v n).2.1 k j = if b ≤ j ∧ j < b + n then v else M.2.1 k j
  | 0 => (if_neg (by omega)).symm
  | n + 1 => by
    show (uSetL (uFillL M k b v n) k (b + n) v).2.1 k j = _
    rw [u_setL1, if_pos rfl, vp_updL_at, uFillL_at j n]
    by_cases h : j = b + n
    · rw [if_pos h, if_pos (by omega)]
    · rw [if_neg h]
      by_cases h2 : b ≤ j ∧ j < b + n
      · rw [if_pos h2, if_pos (by omega)]
      · rw [if_neg h2, if_neg (by omega)]
/-- sheet -/
theorem s_sheet {M : uM} (A : rAll M) {s l z : Nat} (hs : s < 4) (hl : l < 4) (hz : z ≤ 24) : rAll (mSheet (xBegin M (243 + 2 * s) (nI l) (nI z)) s (nI l) (nI z)) := by
  obtain ⟨ty, T⟩ := A.2.2.1
  have e1 : (mSheet (xBegin M (243 + 2 * s) (nI l) (nI z)) s (nI l) (nI z)).1 = (uSet (uSet (uSet (uSet (uSet M (243 + 2 * s) 0 1) (243 + 2 * s) 1 (nI l)) (243 + 2 * s) 2 (nI z)) 259 s (nI l)) 260 s (nI z)).1 := by
    unfold mSheet
    rw [(uFillL_1 _ _ _ _ _).1]
    show va_up (va_up (xBegin M (243 + 2 * s) (nI l) (nI z)).1 259 _) 260 _ = _
    unfold xBegin
    rw [(uFillL_1 _ _ _ _ _).1]
    rfl
  have e22 : (mSheet (xBegin M (243 + 2 * s) (nI l) (nI z)) s (nI l) (nI z)).2.2 = M.2.2 := by
    unfold mSheet
    rw [(uFillL_1 _ _ _ _ _).2]
    show (xBegin M (243 + 2 * s) (nI l) (nI z)).2.2 = _
    unfold xBegin
    rw [(uFillL_1 _ _ _ _ _).2]
    rfl
  have far : ∀ k, k ≠ 243 + 2 * s → k ≠ 259 → k ≠ 260 → (mSheet (xBegin M (243 + 2 * s) (nI l) (nI z)) s (nI l) (nI z)).1 k = M.1 k := fun k h1 h2 h3 => by
    rw [e1, u_set_far h3, u_set_far h2, u_set_far h1, u_set_far h1, u_set_far h1]
  have eL : ∀ t a, t < 4 → a < 24 → (mSheet (xBegin M (243 + 2 * s) (nI l) (nI z)) s (nI l) (nI z)).2.1 (244 + 2 * t) a = if t = s then 0 else M.2.1 (244 + 2 * t) a := fun t a ht ha => by
    unfold mSheet
    rw [uFillL_far (by omega)]
    show (xBegin M (243 + 2 * s) (nI l) (nI z)).2.1 (244 + 2 * t) a = _
    unfold xBegin
    by_cases h : t = s
    · subst h
      rw [show 244 + 2 * t = 243 + 2 * t + 1 by omega, uFillL_at, if_pos (by omega), if_pos rfl]
    · rw [uFillL_far (by omega), if_neg h]; rfl
  have eM : ∀ t a, t < 4 → a < 24 → (mSheet (xBegin M (243 + 2 * s) (nI l) (nI z)) s (nI l) (nI z)).2.1 261 (24 * t + a) = if t = s then 0 else M.2.1 261 (24 * t + a) := fun t a ht ha => by
    unfold mSheet
    rw [uFillL_at]
    by_cases h : t = s
    · rw [if_pos (by omega), if_pos h]
    · rw [if_neg (by omega), if_neg h]
      show (xBegin M (243 + 2 * s) (nI l) (nI z)).2.1 261 (24 * t + a) = _
      unfold xBegin
      rw [uFillL_far (by omega)]; rfl
  refine rAll_side A e22 (fun k h => far k (by omega) (by omega) (by omega)) (far _ (by omega) (by decide) (by decide)) (far _ (by omega) (by decide) (by decide)) (far _ (by omega) (by decide) (by decide)) (by rw [far 251 (by omega) (by decide) (by decide)]; exact ⟨rfl, rfl, rfl⟩) ⟨ty, rTape_congr (far _ (by omega) (by decide) (by decide)) (far _ (by omega) (by decide) (by decide)) (by rw [far 251 (by omega) (by decide) (by decide)]) (far _ (by omega) (by decide) (by decide)) T⟩ (fun t ht => ?_)
  obtain ⟨r1, r2, r3, r4⟩ := A.2.2.2.1 t ht
  have e4 : ∀ a, a < 24 → (mSheet (xBegin M (243 + 2 * s) (nI l) (nI z)) s (nI l) (nI z)).2.1 (244 + 2 * t) a = (mSheet (xBegin M (243 + 2 * s) (nI l) (nI z)) s (nI l) (nI z)).2.1 261 (24 * t + a) := fun a ha => by
    rw [eL t a ht ha, eM t a ht ha]
    by_cases h : t = s
    · rw [if_pos h, if_pos h]
    · rw [if_neg h, if_neg h]; exact r4 a ha
  refine ⟨?_, ?_, ?_, e4⟩
  all_goals rw [e1]
  all_goals by_cases h : t = s
  · subst h
    refine Or.inr ⟨?_, ?_, l, hl, ?_⟩
    · rw [u_set_far (by omega), u_set_far (by omega), u_set1, if_pos rfl, if_neg (by decide), u_set1, if_pos rfl, if_neg (by decide), u_set1, if_pos rfl, if_pos rfl]
    · rw [u_set_far (show 243 + 2 * t ≠ 260 by omega), u_set_far (show 243 + 2 * t ≠ 259 by omega), u_set1, if_pos rfl, if_neg (by decide), u_set1, if_pos rfl, if_pos rfl, u_set_far (show 259 ≠ 260 by decide), u_set1, if_pos rfl, if_pos rfl]
    · rw [u_set_far (show 259 ≠ 260 by decide), u_set1, if_pos rfl, if_pos rfl]
  · have f1 : (uSet (uSet (uSet (uSet (uSet M (243 + 2 * s) 0 1) (243 + 2 * s) 1 (nI l)) (243 + 2 * s) 2 (nI z)) 259 s (nI l)) 260 s (nI z)).1 (243 + 2 * t) = M.1 (243 + 2 * t) := by
      rw [u_set_far (by omega), u_set_far (by omega), u_set_far (by omega), u_set_far (by omega), u_set_far (by omega)]
    have f2 : (uSet (uSet (uSet (uSet (uSet M (243 + 2 * s) 0 1) (243 + 2 * s) 1 (nI l)) (243 + 2 * s) 2 (nI z)) 259 s (nI l)) 260 s (nI z)).1 259 t = M.1 259 t := by
      rw [u_set_far (by decide), u_set1, if_pos rfl, if_neg h, u_set_far (by omega), u_set_far (by omega), u_set_far (by omega)]
    rw [f1, f2]; exact r1
  · subst h
    rw [u_set_far (show 243 + 2 * t ≠ 260 by omega), u_set_far (show 243 + 2 * t ≠ 259 by omega), u_set1, if_pos rfl, if_pos rfl, u_set1, if_pos rfl, if_pos rfl]
  · rw [u_set_far (show 243 + 2 * t ≠ 260 by omega), u_set_far (show 243 + 2 * t ≠ 259 by omega), u_set_far (show 243 + 2 * t ≠ 243 + 2 * s by omega), u_set_far (show 243 + 2 * t ≠ 243 + 2 * s by omega), u_set_far (show 243 + 2 * t ≠ 243 + 2 * s by omega), u_set1, if_pos rfl, if_neg h, u_set_far (show 260 ≠ 259 by decide), u_set_far (show 260 ≠ 243 + 2 * s by omega), u_set_far (show 260 ≠ 243 + 2 * s by omega), u_set_far (show 260 ≠ 243 + 2 * s by omega)]
    exact r2
  · subst h
    rw [u_set1, if_pos rfl, if_pos rfl]; exact ⟨z, hz, rfl⟩
  · rw [u_set1, if_pos rfl, if_neg h, u_set_far (show 260 ≠ 259 by decide), u_set_far (show 260 ≠ 243 + 2 * s by omega), u_set_far (show 260 ≠ 243 + 2 * s by omega), u_set_far (show 260 ≠ 243 + 2 * s by omega)]
    exact r3
