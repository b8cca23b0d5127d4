theorem r_cpy {α : Type} (f g : Nat → α) (sp dp n a : Nat) : va_cpy f g sp dp n a = if dp ≤ a ∧ a < dp + n then f (sp + (a - dp)) else g a := by
  unfold va_cpy
  first | rfl | (split <;> split <;> first | rfl | omega | (congr 1; omega))
/-- copy -/
theorem s_copy {M : uM} (A : rAll M) {s i t j m : Nat} (hs : s < 4) (ht : t < 4) (hi : i + m ≤ 24) (hj : j + m ≤ 24) :
    rAll (mCopy (uRowL M (243 + 2 * t + 1) (va_cpy (M.2.1 (243 + 2 * s + 1)) (M.2.1 (243 + 2 * t + 1)) i j m)) s i t j m) := by
  obtain ⟨ty, T⟩ := A.2.2.1
  refine rAll_side A rfl (fun k h => rfl) rfl rfl rfl ⟨rfl, rfl, rfl⟩ ⟨ty, T⟩ (fun u hu => ?_)
  obtain ⟨r1, r2, r3, r4⟩ := A.2.2.2.1 u hu
  obtain ⟨-, -, -, q4⟩ := A.2.2.2.1 s hs
  refine ⟨r1, r2, r3, fun a ha => ?_⟩
  have e1 : (mCopy (uRowL M (243 + 2 * t + 1) (va_cpy (M.2.1 (243 + 2 * s + 1)) (M.2.1 (243 + 2 * t + 1)) i j m)) s i t j m).2.1 (244 + 2 * u) = if 244 + 2 * u = 243 + 2 * t + 1 then va_cpy (M.2.1 (243 + 2 * s + 1)) (M.2.1 (243 + 2 * t + 1)) i j m else M.2.1 (244 + 2 * u) := by
    unfold mCopy
    rw [u_row1L, if_neg (show 244 + 2 * u ≠ 261 by omega), u_row1L, if_neg (show 244 + 2 * u ≠ 262 by omega), u_row1L]
  have e2 : (mCopy (uRowL M (243 + 2 * t + 1) (va_cpy (M.2.1 (243 + 2 * s + 1)) (M.2.1 (243 + 2 * t + 1)) i j m)) s i t j m).2.1 261 = va_cpy (va_cpy (M.2.1 261) (M.2.1 262) (24 * s + i) 0 m) (M.2.1 261) 0 (24 * t + j) m := by
    have f1 : (uRowL M (243 + 2 * t + 1) (va_cpy (M.2.1 (243 + 2 * s + 1)) (M.2.1 (243 + 2 * t + 1)) i j m)).2.1 261 = M.2.1 261 := by rw [u_row1L, if_neg (by omega)]
    have f2 : (uRowL M (243 + 2 * t + 1) (va_cpy (M.2.1 (243 + 2 * s + 1)) (M.2.1 (243 + 2 * t + 1)) i j m)).2.1 262 = M.2.1 262 := by rw [u_row1L, if_neg (by omega)]
    unfold mCopy
    rw [f1, f2]
    show va_cpy (va_cpy (M.2.1 261) (M.2.1 262) (24 * s + i) 0 m) ((uRowL M (243 + 2 * t + 1) (va_cpy (M.2.1 (243 + 2 * s + 1)) (M.2.1 (243 + 2 * t + 1)) i j m)).2.1 261) 0 (24 * t + j) m = _
    rw [f1]
  rw [e1, e2, r_cpy]
  by_cases h : u = t
  · subst h
    rw [if_pos (by omega), r_cpy]
    by_cases h2 : j ≤ a ∧ a < j + m
    · rw [if_pos h2, if_pos (by omega), r_cpy, if_pos (by omega), show 243 + 2 * s + 1 = 244 + 2 * s by omega, q4 (i + (a - j)) (by omega)]
      exact congrArg (M.2.1 261) (by omega)
    · rw [if_neg h2, if_neg (by omega), show 243 + 2 * u + 1 = 244 + 2 * u by omega]
      exact r4 a ha
  · rw [if_neg (by omega), if_neg (by omega)]
    exact r4 a ha
