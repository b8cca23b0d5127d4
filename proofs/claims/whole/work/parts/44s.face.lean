/-! the class's states behind its calls -/
def xSpk (M : uM) (n : Nat) (k b v : Int32) : uM := uSet (uFill (xAddS M 1 n k b) 4 (n * 6) v 6) 1 10 0
def xCount (M : uM) (n : Nat) (x : Int32) : Int32 :=
  if x = 0 then M.1 1 0 else if x = 1 then M.1 1 4 else if x = 2 then M.1 1 6 else if x = 3 then M.1 1 7 else if x = 4 then M.1 7 4
  else if x = 5 then xHears (M.1 1 6) (M.1 1 7) (M.1 7 4)
  else if x = 6 then nI (xThose M n 0) else if x = 7 then nI (xThose M n 1) else if x = 8 then nI (xThose M n 2)
  else if x = 9 then M.1 11 0 else if x = 10 then M.1 1 10 else -1
def xOf (M : uM) (p : Nat) (x : Int32) : Int32 := if x = 0 then M.1 2 p else if x = 1 then M.1 3 p else if x = 2 then M.1 8 p else if x = 3 then M.1 9 p else -1
def xWhy (M : uM) (n nw : Nat) (x y : Int32) : Int32 :=
  if (0 ≤ x.toInt ∧ x.toInt < n) ∧ (0 ≤ y.toInt ∧ y.toInt < nw) then (if M.1 8 (tn x) = 0 then (if M.1 7 4 < 9999 then 0 else -3) else -2) else -1
theorem xWhy_ok {M : uM} {n nw : Nat} {x y : Int32} (h : xWhy M n nw x y = 0) : (0 ≤ x.toInt ∧ x.toInt < n) ∧ (0 ≤ y.toInt ∧ y.toInt < nw) := by
  by_cases c : (0 ≤ x.toInt ∧ x.toInt < n) ∧ (0 ≤ y.toInt ∧ y.toInt < nw)
  · exact c
  · unfold xWhy at h
    rw [if_neg c] at h
    exact absurd h (by decide)
theorem xRem1_far {M : uM} {k a : Nat} (hk : 15 ≤ M.2.2 6 k) (ha : a ≤ 14) (h1 : a ≠ 1) : (xRem1 M k).1 a = M.1 a := by
  unfold xRem1
  rw [u_set_far h1, xMomCp_far (by omega)]
theorem xRem_14 {M : uM} {k a : Nat} (hP15 : ∀ i, i < 8 → 15 ≤ M.2.2 6 i) (hk8 : k ≤ 8) (ha : a ≤ 14) (h1 : a ≠ 1) : (xRem M k).1 a = M.1 a := by
  unfold xRem
  by_cases h : k < 8
  · rw [if_pos h]
    exact xRem1_far (hP15 k h) ha h1
  · rw [if_neg h, xRem1_far (M := uSet (uSetP (xRow M 7) 6 7 (M.2.2 6 0)) 1 10 7) (k := 7) (show 15 ≤ M.2.2 6 0 from hP15 0 (by decide)) ha h1, u_set_far h1, u_setP1, xRow_1]
theorem xRem_1 {M : uM} {k j : Nat} (hP15 : ∀ i, i < 8 → 15 ≤ M.2.2 6 i) (hk8 : k ≤ 8) (hj : j ≠ 10) : (xRem M k).1 1 j = M.1 1 j := by
  have key : ∀ (A : uM) (k : Nat), 15 ≤ A.2.2 6 k → (xRem1 A k).1 1 j = A.1 1 j := by
    intro A k hk
    unfold xRem1
    rw [u_set1, if_pos rfl, if_neg hj, xMomCp_far (by omega)]
  unfold xRem
  by_cases h : k < 8
  · rw [if_pos h]
    exact key _ _ (hP15 k h)
  · rw [if_neg h, key (uSet (uSetP (xRow M 7) 6 7 (M.2.2 6 0)) 1 10 7) 7 (show 15 ≤ M.2.2 6 0 from hP15 0 (by decide)), u_set1, if_pos rfl, if_neg hj, u_setP1, xRow_1]
def xCame (d ps : Int32) : Int32 := if ps ≤ uLot d then 2 else 1
def xTeach (M : uM) (p s : Nat) : uM :=
  let A := uSet M 9 p (M.1 9 p ||| ((1 : Int32) <<< (nI s &&& 31)))
  uSet A 7 4 (A.1 7 4 + 1)
def xFilm (M : uM) (p w q b : Nat) : Nat → uM
  | 0 => M
  | k + 1 => uSetL (xFilm M p w q b k) (q + 1) (b + k) (uCut ((xFilm M p w q b k).1 q 1) (xPassIn (xFilm M p w q b k) p w ((xFilm M p w q b k).1 7 4 + nI k)).toInt64)
theorem xFilm_1 (M : uM) (p w q b : Nat) : ∀ k, (xFilm M p w q b k).1 = M.1
  | 0 => rfl
  | k + 1 => xFilm_1 M p w q b k
theorem xPart_le (f : Nat → Int32) : ∀ k, (xPart f k).1 ≤ k
  | 0 => Nat.le_refl 0
  | k + 1 => by
    have h := xPart_le f k
    unfold xPart
    split
    · omega
    · exact Nat.le_refl _
