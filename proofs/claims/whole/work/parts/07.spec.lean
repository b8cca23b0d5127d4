/-! WHAT IS RECKONED, the same for both sides, over ints as the machine has them -/
def ubit (x : Int32) (k : Nat) : Bool := decide (((x >>> (nI k &&& 31)) &&& 1) = 1)
def uTen (v : Int32) : Int32 := if v ≤ 10 then v else 10
def uApt (pl : Int32) (b : Bool) : Int32 := pl + (if b = true then 3 else 0)
def uSkill (kd pl wn : Int32) (b : Bool) : Int32 :=
  if kd = 0 then uTen (pl + wn / 3)
  else if kd = 1 then uTen ((if 2 ≤ pl then pl - 2 else 0) + wn / 3)
  else if kd = 2 then uTen (uApt pl b + wn / 3)
  else if kd = 3 then 0
  else uTen ((if 5 ≤ uApt pl b then uApt pl b else 5) + wn / 3)
def uHears (ear tires hour : Int32) : Int32 := if 0 ≤ ear - hour / tires then ear - hour / tires else 0
def uPass (snd : Int32) (sk : Nat → Int32) (hd : Int32) : Nat → Int32
  | 0 => 1000000
  | n + 1 => if ubit snd n = true then uPass snd sk hd n * (sk n * hd + (10 - sk n) * (10 - hd)) / 100 else uPass snd sk hd n
/-! the reference's own words for it -/
def mSk (M : uM) (p : Nat) (wn tg : Int32) (s : Nat) : Int32 := uSkill (M.1 252 (7 + 10 * p)) (M.1 252 (7 + 10 * p + (4 + s))) wn (ubit tg s)
def mPass (M : uM) (p w : Nat) (hour wn tg : Int32) : Int32 := uPass (M.1 252 (67 + 2 * w)) (mSk M p wn tg) (uHears (M.1 252 2) (M.1 252 3) hour) 6
def mPassIn (M : uM) (p w : Nat) (hour : Int32) : Int32 := mPass M p w hour (M.1 252 (67 + 2 * w + 1)) (M.1 252 (7 + 10 * p + 3))
theorem u_pred {n : Nat} (h : n ≤ 6) : (nI n - 1).toInt = (n : Int) - 1 := by
  have e : (1 : Int32).toInt = 1 := rfl
  rw [u_subI (by rw [nI_toInt (by omega), e]; omega) (by rw [nI_toInt (by omega), e]; omega), nI_toInt (by omega), e]
theorem uz_nar {P : Prop} [Decidable P] : narrow .boolean (.int (if P then 1 else 0)) = .int (if P then 1 else 0) := by
  by_cases h : P
  · rw [if_pos h]; rfl
  · rw [if_neg h]; rfl
theorem u_ifc {P Q : Prop} [Decidable P] [Decidable Q] (h : P ↔ Q) : (if P then (1 : Int32) else 0) = if Q then 1 else 0 := by
  by_cases hq : Q
  · rw [if_pos hq, if_pos (h.mpr hq)]
  · rw [if_neg hq, if_neg (fun z => hq (h.mp z))]
theorem u_in {x : Int} {v lo hi : Int64} {a b : Int} {r : Int32} (hx : v.toInt = x) (ha : lo.toInt = a) (hb : hi.toInt = b) (e : r = if lo.toInt ≤ v.toInt ∧ v.toInt ≤ hi.toInt then 1 else 0) : r = if a ≤ x ∧ x ≤ b then 1 else 0 := by
  rw [e, ha, hb, hx]
/-- a stretch of a row filled -/
def uFill (M : uM) (k b : Nat) (v : Int32) : Nat → uM
  | 0 => M
  | n + 1 => uSet (uFill M k b v n) k (b + n) v
/-- the number of an int that isn't below 0 -/
def tn (x : Int32) : Nat := x.toInt.toNat
theorem u_tn {x : Int32} {n : Nat} (h : 0 ≤ x.toInt ∧ x.toInt < n) (hn : n < 2 ^ 31) : tn x < n ∧ x = nI (tn x) := by
  refine ⟨by unfold tn; omega, ?_⟩
  apply Int32.toInt_inj.mp
  rw [nI_toInt (by unfold tn; omega)]
  unfold tn
  omega
/-- sets as numbers -/
def nSet (f : Nat → Bool) : Nat → Nat
  | 0 => 0
  | n + 1 => nSet f n + (if f n = true then 2 ^ n else 0)
theorem nSet_lt (f : Nat → Bool) : ∀ n, nSet f n < 2 ^ n
  | 0 => by simp [nSet]
  | n + 1 => by
    have h := nSet_lt f n
    have e : 2 ^ (n + 1) = 2 ^ n + 2 ^ n := by rw [Nat.pow_succ]; omega
    unfold nSet
    split <;> omega
theorem nSet_or : ∀ i : Fin 6, ∀ a : Fin (2 ^ i.val), nI a.val ||| ((1 : Int32) <<< (nI i.val &&& 31)) = nI (a.val + 2 ^ i.val) := by decide +kernel
theorem nSet_t {f : Nat → Bool} {i : Nat} (hi : i < 6) (h : f i = true) : nI (nSet f i) ||| ((1 : Int32) <<< (nI i &&& 31)) = nI (nSet f (i + 1)) := by
  rw [nSet, if_pos h]
  exact nSet_or ⟨i, hi⟩ ⟨nSet f i, nSet_lt f i⟩
theorem nSet_f {f : Nat → Bool} {i : Nat} (h : f i = false) : nI (nSet f i) ||| 0 = nI (nSet f (i + 1)) := by
  rw [nSet, if_neg (by rw [h]; decide)]
  exact Int32.or_zero
theorem nSet_n {f : Nat → Bool} {i : Nat} (h : f i = false) : nI (nSet f i) = nI (nSet f (i + 1)) := by
  rw [nSet, if_neg (by rw [h]; decide), Nat.add_zero]
/-- copying loops: a step of va_cpy -/
theorem u_cpy {f g : Nat → Int32} {sp dp i : Nat} : upd (va_cpy f g sp dp i) (dp + i) (f (sp + i)) = va_cpy f g sp dp (i + 1) := by
  funext j
  simp only [upd, va_cpy]
  by_cases h : j = dp + i
  · subst h
    rw [if_pos rfl, if_pos (by omega)]
    congr 1; omega
  · rw [if_neg h]
    by_cases h2 : dp ≤ j ∧ j < dp + i
    · rw [if_pos h2, if_pos (by omega)]
    · rw [if_neg h2, if_neg (by omega)]
theorem u_cpy0 {f g : Nat → Int32} {sp dp : Nat} : va_cpy f g sp dp 0 = g := by
  funext j
  simp only [va_cpy]
  rw [if_neg (by omega)]
theorem u_set_row (M : uM) (k j : Nat) (r : Nat → Int32) (x : Int32) : uSet (uRow M k r) k j x = uRow M k (upd r j x) := by
  simp only [uSet, uRow, va_up_s]
  congr 1
  funext a
  by_cases h : a = k
  · subst h; rw [va_up_s, va_up_s]
  · rw [va_up_n h, va_up_n h, va_up_n h]
theorem u_row_self (M : uM) (k : Nat) : uRow M k (M.1 k) = M := by
  simp only [uRow]
  have : va_up M.1 k (M.1 k) = M.1 := by
    funext a
    by_cases h : a = k
    · subst h; rw [va_up_s]
    · rw [va_up_n h]
  rw [this]
theorem u_row1 (M : uM) (k : Nat) (r : Nat → Int32) (a : Nat) : (uRow M k r).1 a = if a = k then r else M.1 a := rfl
/-! the reference's states behind its calls -/
def mSpk (M : uM) (n : Nat) (k b v : Int32) : uM :=
  let M5 := uFill (uSet (uSet (uSet (uSet M 252 (7 + 10 * n) k) 252 (7 + 10 * n + 1) b) 252 (7 + 10 * n + 2) 0) 252 (7 + 10 * n + 3) 0) 252 (7 + 10 * n + 4) v 6
  uSet (uSet M5 252 0 (M5.1 252 0 + 1)) 251 8 0
def mWrd (M : uM) (w : Nat) (x : Int32) : uM :=
  let M2 := uSet (uSet M 252 (67 + 2 * w) x) 252 (67 + 2 * w + 1) 0
  uSet (uSet M2 252 1 (nI (w + 1))) 251 8 0
def mFate (M : uM) (p : Nat) : Int32 := M.1 252 (7 + 10 * p + 2)
def mThose (M : uM) (n : Nat) (x : Int32) : Nat := nSet (fun p => decide (mFate M p = x)) n
def mCount (M : uM) (n : Nat) (x : Int32) : Int32 :=
  if x = 0 then M.1 252 0 else if x = 1 then M.1 252 1 else if x = 2 then M.1 252 2 else if x = 3 then M.1 252 3 else if x = 4 then M.1 252 4
  else if x = 5 then uHears (M.1 252 2) (M.1 252 3) (M.1 252 4)
  else if x = 6 then nI (mThose M n 0) else if x = 7 then nI (mThose M n 1) else if x = 8 then nI (mThose M n 2)
  else if x = 9 then M.1 252 6 else if x = 10 then M.1 251 8 else -1
def mNotes (M : uM) (k : Nat) : uM :=
  if k = 8 then
    let M1 := uSet (uRow M 256 (va_cpy (M.1 256) (M.1 256) 115 0 805)) 251 8 7
    uSet (uRow M1 256 (va_cpy (M1.1 252) (M1.1 256) 0 805 115)) 251 8 (nI 8)
  else uSet (uRow M 256 (va_cpy (M.1 252) (M.1 256) 0 (115 * k) 115)) 251 8 (nI (k + 1))
