/-! fords that become like another, remember, go back -/
theorem uMom_7 : uMom 7 := ⟨0, 0, by decide, by decide, rfl⟩
theorem uMom_85 : uMom 85 := ⟨1, 0, by decide, by decide, rfl⟩
theorem uMom_163 : uMom 163 := ⟨2, 0, by decide, by decide, rfl⟩
theorem uMom_ford {q : Nat} (h : uMom q) : (1 < q) ∧ (79 < q ∨ q + 7 < 79) ∧ (157 < q ∨ q + 7 < 157) := by
  obtain ⟨f, p, hf, hp, rfl⟩ := h
  rcases (show f = 0 ∨ f = 1 ∨ f = 2 by omega) with rfl | rfl | rfl <;> omega
theorem u_set_far {M : uM} {k j a : Nat} {x : Int32} (h : a ≠ k) : (uSet M k j x).1 a = M.1 a := va_up_n h
theorem u_row_far {M : uM} {k a : Nat} {r : Nat → Int32} (h : a ≠ k) : (uRow M k r).1 a = M.1 a := va_up_n h
theorem xBookCp_far {M : uM} {q r a : Nat} (h : a < q ∨ q + 7 < a) : (xBookCp M q r).1 a = M.1 a := by
  unfold xBookCp
  rw [u_row_far (by omega), u_row_far (by omega), u_row_far (by omega), u_set_far (by omega)]
theorem xMomCp_far {M : uM} {q r a : Nat} (h : a < q ∨ q + 7 < a) : (xMomCp M q r).1 a = M.1 a := by
  unfold xMomCp
  rw [u_set_far (by omega), u_set_far (by omega), xBookCp_far h, u_row_far (by omega), u_row_far (by omega), u_row_far (by omega)]
theorem xMomCp_2 (M : uM) (q r : Nat) : (xMomCp M q r).2 = M.2 := rfl
def xBL (M : uM) (b o : Nat) : Nat → uM
  | 0 => M
  | i + 1 => xMomCp (xBL M b o i) ((xBL M b o i).2.2 (b + 5) i) ((xBL M b o i).2.2 (o + 5) i)
theorem xBL_2 (M : uM) (b o : Nat) : ∀ i, (xBL M b o i).2 = M.2
  | 0 => rfl
  | i + 1 => xBL_2 M b o i
/-- what is told of a ford, and its moment -/
def sSet (M : uM) (b o j : Nat) : uM := uSet M b j (M.1 o j)
def sRow (M : uM) (b o n : Nat) : uM := uRow M b (va_cpy (M.1 o) (M.1 b) 0 0 n)
def xFordCp0 (M : uM) (b o : Nat) : uM :=
  sSet (xMomCp (sSet (sSet (sRow (sSet (sRow (sRow (sRow (sSet M b o 0) (b + 1) (o + 1) 6) (b + 2) (o + 2) 6) (b + 3) (o + 3) 36) b o 4) (b + 4) (o + 4) 6) b o 6) b o 7) (b + 6) (o + 6)) b o 10
def xFordCp (M : uM) (b o k : Nat) : uM := xBL (xFordCp0 M b o) b o k
def xSettle (M : uM) (k : Nat) : uM :=
  let A := xFordCp M 1 157 k
  uSet (uSet A 1 7 (M.1 1 7)) 7 5 (M.1 7 5)
theorem xRow_1 (M : uM) (i : Nat) : (xRow M i).1 = M.1 := rfl
theorem xRow_s (M : uM) {i : Nat} : uSetP (xRow M i) 6 i ((xRow M i).2.2 6 (1 + i)) = xRow M (i + 1) := by
  have e : (xRow M i).2.2 6 (1 + i) = M.2.2 6 (1 + i) := by
    have e0 : (xRow M i).2.2 6 = va_cpy (M.2.2 6) (M.2.2 6) 1 0 i := rfl
    rw [e0, pk_cpy_out (Or.inr (by omega))]
  rw [e]
  unfold uSetP xRow
  dsimp only
  congr 2
  funext a
  by_cases h : a = 6
  · subst h
    rw [va_up_s, va_up_s, va_up_s]
    funext j
    simp only [va_up, va_cpy]
    by_cases hj : j = i
    · subst hj
      rw [if_pos rfl, if_pos (by omega)]
      exact congrArg (M.2.2 6) (by omega)
    · rw [if_neg hj]
      by_cases h2 : 0 ≤ j ∧ j < 0 + i
      · rw [if_pos h2, if_pos (by omega)]
      · rw [if_neg h2, if_neg (by omega)]
  · rw [va_up_n h, va_up_n h, va_up_n h]
theorem xRow_0 (M : uM) : M = xRow M 0 := by
  unfold xRow
  have e : va_cpy (M.2.2 6) (M.2.2 6) 1 0 0 = M.2.2 6 := by
    funext j
    simp only [va_cpy]
    rw [if_neg (by omega)]
  have e2 : va_up M.2.2 6 (M.2.2 6) = M.2.2 := by
    funext a
    by_cases h : a = 6
    · subst h; rw [va_up_s]
    · rw [va_up_n h]
  rw [e, e2]
theorem xRow_P {M : uM} (hP : xPast M) {i : Nat} (hi : i ≤ 7) : xPast (xRow M i) := by
  intro j hj
  have e0 : (xRow M i).2.2 6 = va_cpy (M.2.2 6) (M.2.2 6) 1 0 i := rfl
  rw [e0]
  unfold va_cpy
  split
  · exact hP _ (by omega)
  · exact hP _ hj
theorem xSetP_P {M : uM} (hP : xPast M) {i v : Nat} (hv : uMom v) : xPast (uSetP M 6 i v) := by
  intro j hj
  show uMom (va_up M.2.2 6 (va_up (M.2.2 6) i v) 6 j)
  rw [va_up_s]
  by_cases h : j = i
  · subst h; rw [va_up_s]; exact hv
  · rw [va_up_n h]; exact hP j hj
