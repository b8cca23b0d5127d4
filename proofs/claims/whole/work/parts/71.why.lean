theorem r_addL (i m : Int32) : (i.toInt64 + m.toInt64).toInt = i.toInt + m.toInt := by
  have h1 := Int32.le_toInt i
  have h2 := Int32.toInt_lt i
  have h3 := Int32.le_toInt m
  have h4 := Int32.toInt_lt m
  rw [Int64.toInt_add, u_w, u_w]
  apply Int.bmod_eq_of_le <;> omega
/-- why a call is refused a sheet, both sides -/
theorem q_whyS {M : uM} {s : Nat} (R : rSheet M s) (lane i m : Int32) : xWhyS M (243 + 2 * s) lane i m = mWhyS M s lane i m := by
  obtain ⟨r1, r2, ⟨z, hz, ez⟩, -⟩ := R
  have h00 : (0 : Int32).toInt = 0 := rfl
  have key : (0 ≤ i.toInt ∧ 0 ≤ m.toInt ∧ i.toInt + m.toInt ≤ (M.1 260 s).toInt) ↔ (¬ i < 0 ∧ ¬ m < 0 ∧ i.toInt64 + m.toInt64 ≤ (M.1 260 s).toInt64) := by
    rw [Int32.lt_iff_toInt_lt, Int32.lt_iff_toInt_lt, Int64.le_iff_toInt_le, r_addL, u_w]
    omega
  unfold xWhyS mWhyS
  rw [r2]
  rcases r1 with ⟨a, b⟩ | ⟨a, b, l, hl4, e⟩
  · rw [a, b, if_pos rfl, if_neg (by decide)]
  · rw [a, b, e, if_neg (by decide), if_pos (t_ge1 (by omega))]
    by_cases c : nI l = lane
    · rw [if_pos c, if_pos c]
      by_cases d : 0 ≤ i.toInt ∧ 0 ≤ m.toInt ∧ i.toInt + m.toInt ≤ (M.1 260 s).toInt
      · rw [if_pos d, if_pos (key.mp d)]
      · rw [if_neg d, if_neg (fun q => d (key.mpr q))]
    · rw [if_neg c, if_neg c]
