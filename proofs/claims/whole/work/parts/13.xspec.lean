/-! the class's own words: ford 1 (kind 2, bank 3, can 4, sounds 5, past 6), its moment 7 (fate 8, taught 9, worn 10), its book 11 (who 12, pass 13, fate 14) -/
def xBy (kd pl : Int32) (b : Bool) : Int32 :=
  if kd = 1 then (if 0 < pl - 2 then pl - 2 else 0) else if kd = 2 then (if b = true then pl + 3 else pl) else if kd = 3 then pl else if kd = 4 then (if 5 < (if b = true then pl + 3 else pl) then (if b = true then pl + 3 else pl) else 5) else pl
def xMin (x : Int32) : Int32 := if x < 10 then x else 10
def xSk (M : uM) (p : Nat) (wn tg : Int32) (s : Nat) : Int32 :=
  if M.1 2 p = 3 then 0 else xMin (xBy (M.1 2 p) (M.1 4 (p * 6 + s)) (ubit tg s) + wn / 3)
def xHears (ear tires hour : Int32) : Int32 := if 0 < ear - hour / tires then ear - hour / tires else 0
def xPassIf (M : uM) (p w : Nat) (hd tg wn : Int32) : Int32 := uPass (M.1 5 w) (xSk M p wn tg) hd 6
def xPassIn (M : uM) (p w : Nat) (hour : Int32) : Int32 := xPassIf M p w (xHears (M.1 1 6) (M.1 1 7) hour) (M.1 9 p) (M.1 10 w)
def xThose (M : uM) (n : Nat) (x : Int32) : Nat := nSet (fun p => decide (M.1 8 p = x)) n
/-- a book, a moment becomes like another -/
def xBookCp (M : uM) (q r : Nat) : uM :=
  let A := uSet M (q + 4) 0 (M.1 (r + 4) 0)
  let B := uRow A (q + 5) (va_cpy (A.1 (r + 5)) (A.1 (q + 5)) 0 0 12)
  let D := uRow B (q + 6) (va_cpy (B.1 (r + 6)) (B.1 (q + 6)) 0 0 12)
  uRow D (q + 7) (va_cpy (D.1 (r + 7)) (D.1 (q + 7)) 0 0 12)
def xMomCp (M : uM) (q r : Nat) : uM :=
  let A := uRow M (q + 1) (va_cpy (M.1 (r + 1)) (M.1 (q + 1)) 0 0 6)
  let B := uRow A (q + 2) (va_cpy (A.1 (r + 2)) (A.1 (q + 2)) 0 0 6)
  let D := uRow B (q + 3) (va_cpy (B.1 (r + 3)) (B.1 (q + 3)) 0 0 6)
  let F := xBookCp D q r
  let G := uSet F q 4 (F.1 r 4)
  uSet G q 5 (G.1 r 5)
def xLose (M : uM) : uM :=
  let A := uSet M 11 0 11
  let B := uRow A 12 (va_cpy (A.1 12) (A.1 12) 1 0 11)
  let D := uRow B 13 (va_cpy (B.1 13) (B.1 13) 1 0 11)
  uRow D 14 (va_cpy (D.1 14) (D.1 14) 1 0 11)
def xEnter1 (M : uM) (b : Nat) (p ps came : Int32) : uM := uSet (uSet (uSet (uSet M 12 b p) 13 b ps) 14 b came) 11 0 (nI (b + 1))
def xEnter (M : uM) (b : Nat) (p ps came : Int32) : uM := if b < 12 then xEnter1 M b p ps came else xEnter1 (xLose M) 11 p ps came
def xDraw (M : uM) : uM := uSet M 7 5 ((M.1 7 5 * 1103515245 + 12345) &&& 2147483647)
def xPut (M : uM) (b p w : Nat) (ps came : Int32) : uM :=
  let A := uSet M 8 p came
  let B := uSet A 10 w (A.1 10 w + 1)
  let D := uSet B 7 4 (B.1 7 4 + 1)
  xEnter D b (nI p) ps came
/-- a speaker, a word more in the ford at b -/
def xAddS (M : uM) (b n : Nat) (k bk : Int32) : uM := uSet (uSet (uSet (uSet (uSet M (b + 1) n k) (b + 2) n bk) (b + 7) n 0) (b + 8) n 0) b 0 (nI (n + 1))
def xAddW (M : uM) (b w : Nat) (x : Int32) : uM := uSet (uSet (uSet M (b + 4) w x) (b + 9) w 0) b 4 (nI (w + 1))
/-- the past moments of the ford 1 that may be had -/
def xPast (M : uM) : Prop := ∀ i, i < 8 → uMom (M.2.2 6 i)
def xRem1 (M : uM) (k : Nat) : uM := uSet (xMomCp M (M.2.2 6 k) 7) 1 10 (nI (k + 1))
def xRow (M : uM) (i : Nat) : uM := (M.1, M.2.1, va_up M.2.2 6 (va_cpy (M.2.2 6) (M.2.2 6) 1 0 i))
def xRem (M : uM) (k : Nat) : uM := if k < 8 then xRem1 M k else xRem1 (uSet (uSetP (xRow M 7) 6 7 (M.2.2 6 0)) 1 10 7) 7
def xBack (M : uM) (k : Nat) : uM := xMomCp (uSet M 1 10 (nI (k - 1))) 7 (M.2.2 6 (k - 1))
