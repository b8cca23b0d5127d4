theorem rTape_congr {M u : uM} {ty : Nat} (h240 : u.1 240 = M.1 240) (h241 : u.1 241 = M.1 241) (h251 : u.1 251 2 = M.1 251 2) (h253 : u.1 253 = M.1 253) (T : rTape M ty) : rTape u ty := by
  unfold rTape
  rw [h240, h241, h251, h253]
  exact T
/-- drop -/
theorem s_drop {M : uM} (A : rAll M) {s : Nat} (hs : s < 4) : rAll (uSet (uSet M (243 + 2 * s) 0 0) 259 s (-1)) := by
  obtain ⟨ty, T⟩ := A.2.2.1
  refine rAll_side A rfl (fun k h => by rw [u_set_far (by omega), u_set_far (by omega)]) ?_ ?_ ?_ ⟨?_, ?_, ?_⟩ ⟨ty, rTape_congr ?_ ?_ ?_ ?_ T⟩ (fun t ht => ?_)
  any_goals (rw [u_set_far (by omega), u_set_far (by omega)])
  obtain ⟨r1, r2, r3, r4⟩ := A.2.2.2.1 t ht
  by_cases h : t = s
  · subst h
    refine ⟨Or.inl ⟨?_, ?_⟩, ?_, ?_, r4⟩
    · rw [u_set_far (by omega), u_set1, if_pos rfl, if_pos rfl]
    · rw [u_set1, if_pos rfl, if_pos rfl]
    · rw [u_set_far (show 243 + 2 * t ≠ 259 by omega), u_set1, if_pos rfl, if_neg (by decide), u_set_far (show 260 ≠ 259 by decide), u_set_far (show 260 ≠ 243 + 2 * t by omega)]
      exact r2
    · rw [u_set_far (show 260 ≠ 259 by decide), u_set_far (show 260 ≠ 243 + 2 * t by omega)]
      exact r3
  · unfold rSheet
    rw [u_set_far (show 243 + 2 * t ≠ 259 by omega), u_set_far (show 243 + 2 * t ≠ 243 + 2 * s by omega), u_set_far (show 260 ≠ 259 by decide), u_set_far (show 260 ≠ 243 + 2 * s by omega), show (uSet (uSet M (243 + 2 * s) 0 0) 259 s (-1)).1 259 t = M.1 259 t from by rw [u_set1, if_pos rfl, if_neg h, u_set_far (show 259 ≠ 243 + 2 * s by omega)]]
    exact ⟨r1, r2, r3, r4⟩
