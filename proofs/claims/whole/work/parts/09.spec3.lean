/-! still more of what is reckoned -/
theorem pop_st {s : Nat} (hs : s < 64) (h : ¬ s = 0) : (nI s &&& (nI s - 1)) = nI (s &&& (s - 1)) ∧ pop (s &&& (s - 1)) + 1 = pop s ∧ (s &&& (s - 1)) < s := pop_step ⟨s, hs⟩ h
theorem pop6 {s : Nat} (hs : s < 64) : pop s ≤ 6 := pop_le ⟨s, hs⟩
def mOk (M : uM) (w n : Nat) (tg : Int32) (k : Nat) : Bool := decide ((nI k &&& (M.1 252 (67 + 2 * w) ^^^ (-1))) = 0) && (decide ((nI k &&& tg) = 0) && decide (pop k ≤ n))
theorem mOk_iff {M : uM} {w n : Nat} {tg : Int32} {k : Nat} : mOk M w n tg k = true ↔ (nI k &&& (M.1 252 (67 + 2 * w) ^^^ (-1))) = 0 ∧ (nI k &&& tg) = 0 ∧ pop k ≤ n := by
  unfold mOk
  rw [Bool.and_eq_true, Bool.and_eq_true, decide_eq_true_iff, decide_eq_true_iff, decide_eq_true_iff]
def mLf (M : uM) (p w : Nat) (tg : Int32) (k : Nat) : Int32 := mPass M p w (M.1 252 4) (M.1 252 (67 + 2 * w + 1)) (tg ||| nI k)
theorem uLearn_le (ok : Nat → Bool) (f : Nat → Int32) : ∀ k, (uLearn ok f k).1 ≤ k
  | 0 => Nat.le_refl 0
  | k + 1 => by
    have h := uLearn_le ok f k
    unfold uLearn
    split
    · exact Nat.le_succ k
    · omega
/-- PASS by the words of a set -/
def uPA (f : Nat → Int32) (s : Int32) : Nat → Int64
  | 0 => 1000000
  | w + 1 => if ubit s w = true then uPA f s w * (f w).toInt64 / 1000000 else uPA f s w
def mPA (M : uM) (nw p s : Nat) : Int32 := (uPA (fun w => mPassIn M p w (M.1 252 4)) (nI s) nw).toInt32
/-- 64: none yet -/
def pv (b : Nat) : Int32 := if b = 64 then -4 else nI b
theorem pv_ne : ∀ b : Fin 64, ¬ nI b.val = -4 := by decide +kernel
theorem pv_iff {b : Nat} (hb : b ≤ 64) : pv b = -4 ↔ b = 64 := by
  unfold pv
  by_cases h : b = 64
  · rw [if_pos h]; exact ⟨fun _ => h, fun _ => rfl⟩
  · rw [if_neg h]; exact ⟨fun z => absurd z (pv_ne ⟨b, by omega⟩), fun z => absurd z h⟩
def uAll (g : Nat → Bool) (b : Bool) : Nat → Bool
  | 0 => b
  | p + 1 => uAll g b p && g p
theorem uAll_f {g : Nat → Bool} {b : Bool} {i : Nat} (h : uAll g b i = false) : ∀ k, uAll g b (i + k) = false
  | 0 => h
  | k + 1 => by show (uAll g b (i + k) && g (i + k)) = false; rw [uAll_f h k]; rfl
def mPOk (M : uM) (nw : Nat) (s : Int32) (set p : Nat) : Bool := if M.1 252 (7 + 10 * p + 1) = 0 then !decide (mPA M nw p set < s) else !decide (1000000 - s < mPA M nw p set)
def mProof (M : uM) (n nw : Nat) (s : Int32) : Nat → Nat
  | 0 => 64
  | k + 1 => if uAll (mPOk M nw s k) (decide (mProof M n nw s k = 64 ∨ ¬ pop (mProof M n nw s k) ≤ pop k)) n = true then k else mProof M n nw s k
theorem u_sh6 : ∀ w : Fin 7, (1 : Int32) <<< (nI w.val &&& 31) = nI (2 ^ w.val) := by decide +kernel
/-- HEARD WRONG: how many, who, its luck -/
def uHW (f : Nat → Bool) (wh lk : Nat → Int32) : Nat → Int32 × Int32 × Int32
  | 0 => (0, -4, 1000001)
  | k + 1 => if f k = true then (if (uHW f wh lk k).2.2 ≤ lk k then ((uHW f wh lk k).1 + 1, (uHW f wh lk k).2) else ((uHW f wh lk k).1 + 1, wh k, lk k)) else uHW f wh lk k
def mHWf (M : uM) (k : Nat) : Bool := decide (M.1 252 (7 + 10 * tn (M.1 252 (79 + 3 * k)) + 1) = M.1 252 (79 + 3 * k + 2))
def mHWl (M : uM) (k : Nat) : Int32 := if M.1 252 (79 + 3 * k + 2) = 1 then M.1 252 (79 + 3 * k + 1) else 1000000 - M.1 252 (79 + 3 * k + 1)
def mHW (M : uM) (k : Nat) : Int32 × Int32 × Int32 := uHW (mHWf M) (fun k => M.1 252 (79 + 3 * k)) (mHWl M) k
def mImage (M : uM) : uM :=
  let A := uRow M 258 (va_cpy (M.1 252) (M.1 258) 0 0 115)
  let B := uRow A 258 (va_cpy (A.1 256) (A.1 258) 0 115 920)
  uSet (uSet B 251 11 (B.1 251 8)) 251 12 1
def mRestore (M : uM) : uM :=
  let A := uRow M 252 (va_cpy (M.1 258) (M.1 252) 0 0 115)
  let B := uRow A 256 (va_cpy (A.1 258) (A.1 256) 115 0 920)
  uSet B 251 8 (B.1 251 11)
def mWhyS (M : uM) (s : Nat) (lane i n : Int32) : Int32 :=
  if 0 ≤ M.1 259 s then (if M.1 259 s = lane then (if ¬ i < 0 ∧ ¬ n < 0 ∧ i.toInt64 + n.toInt64 ≤ (M.1 260 s).toInt64 then 0 else -13) else -12) else -11
def uCut (lane : Int32) (v : Int64) : Int64 :=
  if lane = 0 then v.toInt32.toInt8.toInt32.toInt64 else if lane = 1 then v.toInt32.toInt16.toInt32.toInt64 else if lane = 2 then v.toInt32.toInt64 else v
/-- LIKE -/
def uLike (f : Nat → Int32) : Nat → Int64
  | 0 => 1000000
  | k + 1 => uLike f k * (f k).toInt64 / 1000000
def mLk (M : uM) (p a k : Nat) : Int32 := if M.2.1 261 (a + 2 * k + 1) = 1 then mPassIn M p (tn (M.2.1 261 (a + 2 * k)).toInt32) (M.1 252 4) else 1000000 - mPassIn M p (tn (M.2.1 261 (a + 2 * k)).toInt32) (M.1 252 4)
def mLike (M : uM) (a k p : Nat) : Int32 := (uLike (mLk M p a) k).toInt32
