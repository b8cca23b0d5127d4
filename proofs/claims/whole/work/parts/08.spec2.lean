/-! more of what is reckoned, and the reference's states behind its calls -/
theorem u_cpS {M : uM} {k : Nat} {r g : Nat → Int32} {sp dp i j : Nat} {x : Int32} (hj : j = dp + i) (hx : x = r (sp + i)) : uSet (uRow M k (va_cpy r g sp dp i)) k j x = uRow M k (va_cpy r g sp dp (i + 1)) := by
  subst hj; subst hx
  rw [u_set_row, u_cpy]
theorem u_cp0 {M : uM} {k : Nat} {r : Nat → Int32} {sp dp : Nat} : M = uRow M k (va_cpy r (M.1 k) sp dp 0) := by rw [u_cpy0, u_row_self]
def uSum (f : Nat → Int32) : Nat → Int32
  | 0 => 0
  | n + 1 => uSum f n + f n
def mWhy (M : uM) (n nw : Nat) (x y : Int32) : Int32 :=
  if (0 ≤ x.toInt ∧ x.toInt < n) ∧ (0 ≤ y.toInt ∧ y.toInt < nw) then (if mFate M (tn x) = 0 then (if M.1 252 4 = 9999 then -3 else 0) else -2) else -1
/-- an entry behind THE BOOK of b entries, one who was asked -/
def mAsk1 (M : uM) (b p w : Nat) (ps came : Int32) : uM :=
  let A := uSet (uSet (uSet M 252 (79 + 3 * b) (nI p)) 252 (79 + 3 * b + 1) ps) 252 (79 + 3 * b + 2) came
  let B := uSet (uSet A 252 6 (nI (b + 1))) 252 (7 + 10 * p + 2) (if came = 1 then 1 else 2)
  let D := uSet B 252 (67 + 2 * w + 1) (B.1 252 (67 + 2 * w + 1) + 1)
  uSet D 252 4 (D.1 252 4 + 1)
def mAsks (M : uM) (b p w : Nat) (ps came : Int32) : uM :=
  if b = 12 then mAsk1 (uSet (uRow M 252 (va_cpy (M.1 252) (M.1 252) 82 79 33)) 252 6 11) 11 p w ps came else mAsk1 M b p w ps came
def mDraw (M : uM) : uM := uSet M 252 5 ((((M.1 252 5).toInt64 * 1103515245 + 12345) &&& 2147483647).toInt32)
def uLot (d : Int32) : Int32 := d / 16 - d / 16 / 1000000 * 1000000
def mCame (M : uM) (p w : Nat) : Int32 := if mPassIn M p w (M.1 252 4) ≤ uLot (M.1 252 5) then 0 else 1
def mTeach (M : uM) (p s : Nat) : uM :=
  let A := uSet M 252 (7 + 10 * p + 3) (M.1 252 (7 + 10 * p + 3) ||| ((1 : Int32) <<< (nI s &&& 31)))
  uSet A 252 4 (A.1 252 4 + 1)
def mUnd2 (M : uM) (f : Nat) : Nat → uM
  | 0 => M
  | p + 1 =>
    let X := mUnd2 M f p
    let Y := uSet X 252 (7 + 10 * p + 2) (X.1 256 (f + 7 + 10 * p + 2))
    uSet Y 252 (7 + 10 * p + 3) (Y.1 256 (f + 7 + 10 * p + 3))
def mUndo (M : uM) (k : Nat) : uM :=
  let M1 := uSet M 251 8 (nI (k - 1))
  let M2 := uRow M1 252 (va_cpy (M1.1 256) (M1.1 252) (115 * (k - 1) + 4) 4 3)
  let M3 := mUnd2 M2 (115 * (k - 1)) 6
  uRow M3 252 (va_cpy (M3.1 256) (M3.1 252) (115 * (k - 1) + 67) 67 48)
def mWrong (M : uM) (p : Nat) (x : Int32) : Int32 := if M.1 252 (7 + 10 * p + 1) = 0 then 1000000 - x else x
def mWrongs (M : uM) (n w : Nat) : Int32 := uSum (fun p => if mFate M p = 0 then mWrong M p (mPassIn M p w (M.1 252 4)) else 0) n
/-- PARTING: the best and its wrongs among the first words; -4 where there is none -/
def uPart (f : Nat → Int32) : Nat → Int32 × Int32
  | 0 => (-4, -4)
  | w + 1 => if (uPart f w).1 = -4 ∨ ¬ (uPart f w).2 ≤ f w then (nI w, f w) else uPart f w
/-- CROSS: the best of the hours h, h + 1, .. h + k -/
def uCross (f : Int32 → Int32) (h : Int32) : Nat → Int32
  | 0 => h
  | k + 1 => if f (h + nI (k + 1)) ≤ f (uCross f h k) then uCross f h k else h + nI (k + 1)
/-- how many are in a set of six -/
def pop (s : Nat) : Nat := s % 2 + s / 2 % 2 + s / 4 % 2 + s / 8 % 2 + s / 16 % 2 + s / 32 % 2
theorem pop_step : ∀ s : Fin 64, s.val ≠ 0 → (nI s.val &&& (nI s.val - 1)) = nI (s.val &&& (s.val - 1)) ∧ pop (s.val &&& (s.val - 1)) + 1 = pop s.val ∧ (s.val &&& (s.val - 1)) < s.val := by decide +kernel
theorem pop_le : ∀ s : Fin 64, pop s.val ≤ 6 := by decide +kernel
/-- LEARN: the set and what it gives, the best of the sets below k that are open -/
def uLearn (ok : Nat → Bool) (f : Nat → Int32) : Nat → Nat × Int32
  | 0 => (0, -1)
  | k + 1 => if ok k = true ∧ (¬ f k ≤ (uLearn ok f k).2 ∨ (f k = (uLearn ok f k).2 ∧ pop k < pop (uLearn ok f k).1)) then (k, f k) else uLearn ok f k
theorem mNotes_252 (M : uM) (k : Nat) : (mNotes M k).1 252 = M.1 252 := by
  unfold mNotes
  split <;> rfl
theorem mUnd2_251 (M : uM) (f : Nat) : ∀ i, (mUnd2 M f i).1 251 = M.1 251
  | 0 => rfl
  | i + 1 => mUnd2_251 M f i
theorem mWhy_ok {M : uM} {n nw : Nat} {x y : Int32} (h : 0 ≤ mWhy M n nw x y) : (0 ≤ x.toInt ∧ x.toInt < n) ∧ (0 ≤ y.toInt ∧ y.toInt < nw) := by
  by_cases c : (0 ≤ x.toInt ∧ x.toInt < n) ∧ (0 ≤ y.toInt ∧ y.toInt < nw)
  · exact c
  · unfold mWhy at h
    rw [if_neg c] at h
    exact absurd h (by decide)
