theorem u_setL1 (M : uM) (k j : Nat) (x : Int64) (a : Nat) : (uSetL M k j x).2.1 a = if a = k then vp_updL (M.2.1 k) j x else M.2.1 a := rfl
theorem vp_updL_at (f : Nat → Int64) (j : Nat) (x : Int64) (a : Nat) : vp_updL f j x a = if a = j then x else f a := rfl
/-- item: one long, cut alike, into both -/
theorem s_item {M : uM} (A : rAll M) {s i : Nat} (hs : s < 4) (hi : i < 24) (v : Int64) : rAll (uSetL (uSetL M (243 + 2 * s + 1) i v) 261 (24 * s + i) v) := by
  obtain ⟨ty, T⟩ := A.2.2.1
  refine rAll_side A rfl (fun k h => rfl) rfl rfl rfl ⟨rfl, rfl, rfl⟩ ⟨ty, T⟩ (fun t ht => ?_)
  obtain ⟨r1, r2, r3, r4⟩ := A.2.2.2.1 t ht
  refine ⟨r1, r2, r3, fun a ha => ?_⟩
  have e1 : (uSetL (uSetL M (243 + 2 * s + 1) i v) 261 (24 * s + i) v).2.1 (244 + 2 * t) a = if t = s ∧ a = i then v else M.2.1 (244 + 2 * t) a := by
    rw [u_setL1, if_neg (show 244 + 2 * t ≠ 261 by omega), u_setL1]
    by_cases h : t = s
    · rw [if_pos (show 244 + 2 * t = 243 + 2 * s + 1 by omega), vp_updL_at, show 243 + 2 * s + 1 = 244 + 2 * t by omega]
      by_cases h2 : a = i
      · rw [if_pos h2, if_pos ⟨h, h2⟩]
      · rw [if_neg h2, if_neg (fun z => h2 z.2)]
    · rw [if_neg (show ¬ 244 + 2 * t = 243 + 2 * s + 1 by omega), if_neg (fun z => h z.1)]
  have e2 : (uSetL (uSetL M (243 + 2 * s + 1) i v) 261 (24 * s + i) v).2.1 261 (24 * t + a) = if t = s ∧ a = i then v else M.2.1 261 (24 * t + a) := by
    rw [u_setL1, if_pos rfl, vp_updL_at, u_setL1, if_neg (show ¬ 261 = 243 + 2 * s + 1 by omega)]
    by_cases h : t = s ∧ a = i
    · rw [if_pos h, if_pos (by omega)]
    · rw [if_neg h, if_neg (by omega)]
  rw [e1, e2]
  by_cases h : t = s ∧ a = i
  · rw [if_pos h, if_pos h]
  · rw [if_neg h, if_neg h]
    exact r4 a ha
