/-! what is foretold, as the class reckons it -/
def xWrong (M : uM) (p : Nat) (x : Int32) : Int32 := if M.1 3 p = 0 then 1000000 - x else x
def xWrongs (M : uM) (n w : Nat) : Int32 := uSum (fun p => if M.1 8 p = 0 then xWrong M p (xPassIn M p w (M.1 7 4)) else 0) n
/-- the word of least wrongs among the first k + 1, and its wrongs -/
def xPart (f : Nat → Int32) : Nat → Nat × Int32
  | 0 => (0, f 0)
  | k + 1 => if (xPart f k).2 ≤ f (k + 1) then xPart f k else (k + 1, f (k + 1))
def xTaught (M : uM) (p w : Nat) (x : Int32) : Int32 := xPassIf M p w (xHears (M.1 1 6) (M.1 1 7) (M.1 7 4)) (M.1 9 p ||| x) (M.1 10 w)
def xOpen (M : uM) (p w : Nat) : Int32 := M.1 5 w &&& (M.1 9 p ^^^ (-1))
def xOk (o n k : Nat) : Bool := decide ((nI k &&& (nI o ^^^ (-1))) = 0) && decide (pop k ≤ n)
theorem xOk_iff {o n k : Nat} : xOk o n k = true ↔ (nI k &&& (nI o ^^^ (-1))) = 0 ∧ pop k ≤ n := by
  unfold xOk
  rw [Bool.and_eq_true, decide_eq_true_iff, decide_eq_true_iff]
def xLearn (ok : Nat → Bool) (f : Nat → Int32) : Nat → Nat × Int32
  | 0 => (0, f 0)
  | k + 1 => if ok (k + 1) = true ∧ (¬ f (k + 1) ≤ (xLearn ok f k).2 ∨ (f (k + 1) = (xLearn ok f k).2 ∧ pop (k + 1) < pop (xLearn ok f k).1)) then (k + 1, f (k + 1)) else xLearn ok f k
theorem u_and63 (s : Nat) (hs : s < 64) (y : Int32) : ∃ o, o < 64 ∧ nI s &&& y = nI o := by
  have h63 : nI s = nI s &&& 63 := by
    have : ∀ s : Fin 64, nI s.val = nI s.val &&& 63 := by decide +kernel
    exact this ⟨s, hs⟩
  obtain ⟨j, h1, h2⟩ := pk_andE (nI s &&& y) (m := 63) 6 (by decide)
  refine ⟨j, h1, ?_⟩
  rw [← h2, Int32.and_assoc, Int32.and_comm y 63, ← Int32.and_assoc, ← h63]
def xLw (M : uM) (w s t : Nat) : Int32 := xWrong M s (xPassIf M s w (xHears (M.1 1 6) (M.1 1 7) (M.1 7 4 + nI t)) (M.1 9 s) (M.1 10 w + nI t))
def clr (s p : Nat) : Nat := if ubit (nI s) p = true then s - 2 ^ p else s
theorem clr_f : ∀ (s : Fin 64) (p : Fin 6), nI s.val &&& (((1 : Int32) <<< (nI p.val &&& 31)) ^^^ (-1)) = nI (clr s.val p.val) ∧ clr s.val p.val < 64 := by decide +kernel
theorem clr_e {s p : Nat} (hs : s < 64) (hp : p < 6) : nI s &&& (((1 : Int32) <<< (nI p &&& 31)) ^^^ (-1)) = nI (clr s p) ∧ clr s p < 64 := clr_f ⟨s, hs⟩ ⟨p, hp⟩
theorem clr_le {s p : Nat} : clr s p ≤ s := by
  unfold clr
  split
  · exact Nat.sub_le _ _
  · exact Nat.le_refl _
/-- the least of those who may come next -/
def xLf (f : Nat → Int32) (set : Nat) : Nat → Int32
  | 0 => 6000000
  | p + 1 => if ubit (nI set) p = true then (if f p < xLf f set p then f p else xLf f set p) else xLf f set p
theorem xLf_cong {f g : Nat → Int32} {set : Nat} : ∀ {n : Nat}, (∀ p, p < n → ubit (nI set) p = true → f p = g p) → xLf f set n = xLf g set n
  | 0, _ => rfl
  | n + 1, h => by
    have ih := xLf_cong (f := f) (g := g) (set := set) (n := n) (fun p hp hb => h p (by omega) hb)
    unfold xLf
    rw [ih]
    by_cases hb : ubit (nI set) n = true
    · rw [if_pos hb, if_pos hb, h n (by omega) hb]
    · rw [if_neg hb, if_neg hb]
def xNext (R T : Nat → Int32) (s t p : Nat) : Int32 := R (t * 6 + p) + T (clr s p)
/-- the first that g likes among m, else m -/
def fF (g : Nat → Bool) : Nat → Nat
  | 0 => 0
  | m + 1 => if fF g m < m then fF g m else if g m = true then m else m + 1
theorem fF_le (g : Nat → Bool) : ∀ m, fF g m ≤ m
  | 0 => Nat.le_refl 0
  | m + 1 => by
    have h := fF_le g m
    unfold fF
    split
    · omega
    · split <;> omega
theorem fF_no {g : Nat → Bool} {i : Nat} (h : ∀ q, q < i → g q = false) : fF g i = i := by
  induction i with
  | zero => rfl
  | succ i ih =>
    have hi := ih (fun q hq => h q (by omega))
    unfold fF
    rw [hi, if_neg (by omega), if_neg (by rw [h i (by omega)]; decide)]
theorem fF_at {g : Nat → Bool} {i : Nat} (h : ∀ q, q < i → g q = false) (hg : g i = true) : ∀ k, fF g (i + 1 + k) = i
  | 0 => by
    show (if fF g i < i then _ else _) = i
    rw [fF_no h, if_neg (by omega), if_pos hg]
  | k + 1 => by
    show (if fF g (i + 1 + k) < i + 1 + k then _ else _) = i
    rw [fF_at h hg k, if_pos (by omega)]
    exact fF_at h hg k
def xG (R T : Nat → Int32) (s t p : Nat) : Bool := ubit (nI s) p && decide (xNext R T s t p = T s)
def xCome (R T : Nat → Int32) (n al : Nat) : Nat → Nat × Nat
  | 0 => (al, fF (xG R T al 0) (n - 1))
  | t + 1 => (clr (xCome R T n al t).1 (xCome R T n al t).2, fF (xG R T (clr (xCome R T n al t).1 (xCome R T n al t).2) (t + 1)) (n - 1))
def xPOk (M : uM) (Q : Nat → Int32) (nw : Nat) (s : Int32) (set p : Nat) : Bool :=
  if M.1 3 p = 0 then !decide (uPA (fun w => Q (p * 6 + w)) (nI set) nw < s.toInt64) else !decide ((1000000 - s).toInt64 < uPA (fun w => Q (p * 6 + w)) (nI set) nw)
def xHWf (M : uM) (e : Nat) : Bool := !decide (M.1 14 e = if M.1 3 (tn (M.1 12 e)) = 0 then 1 else 2)
def xHWl (M : uM) (e : Nat) : Int32 := if M.1 14 e = 1 then M.1 13 e else 1000000 - M.1 13 e
def xCnt (f : Nat → Bool) : Nat → Int32
  | 0 => 0
  | k + 1 => if f k = true then xCnt f k + 1 else xCnt f k
def xUn (f : Nat → Bool) (wh lk : Nat → Int32) : Nat → Int32 × Int32
  | 0 => (-4, 1000001)
  | k + 1 => if f k = true ∧ ¬ (xUn f wh lk k).2 ≤ lk k then (wh k, lk k) else xUn f wh lk k
/-- by the items of a sheet's row L from a on -/
def xLk (M : uM) (L : Nat → Int64) (p a k : Nat) : Int32 := if L (a + 2 * k + 1) = 1 then xPassIn M p (tn (L (a + 2 * k)).toInt32) (M.1 7 4) else 1000000 - xPassIn M p (tn (L (a + 2 * k)).toInt32) (M.1 7 4)
def xBest (L : Nat → Int64) : Nat → Int32
  | 0 => -4
  | p + 1 => if p = 0 then nI 0 else if L p ≤ L (tn (xBest L p)) then xBest L p else nI p
def xSumL (L : Nat → Int64) : Nat → Int64
  | 0 => 0
  | p + 1 => xSumL L p + L p
def jU (x y : Int32) : Int32 := (x.toUInt32 >>> (y.toUInt32 &&& Int32.toUInt32 31)).toInt32
def jBit (x : Int32) : Int32 :=
  let a := x - (jU x 1 &&& 1431655765)
  let b := (a &&& 858993459) + (jU a 2 &&& 858993459)
  let c := (b + jU b 4) &&& 252645135
  let d := c + jU c 8
  let e := d + jU d 16
  e &&& 63
theorem bitc_all : ∀ s : Fin 64, jBit (nI s.val) = nI (pop s.val) := by decide +kernel
