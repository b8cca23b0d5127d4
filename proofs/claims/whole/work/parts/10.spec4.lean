/-! sheets, and who it was -/
theorem u_add64 (x y : Int32) : (x.toInt64 + y.toInt64).toInt = x.toInt + y.toInt := by
  have h1 := u_i32 x
  have h2 := u_i32 y
  rw [Int64.toInt_add, u_w, u_w]
  exact Int.bmod_eq_of_le (by omega) (by omega)
theorem mWhyS_ok {M : uM} {s : Nat} {lane i n : Int32} (h : 0 ≤ mWhyS M s lane i n) : 0 ≤ i.toInt ∧ 0 ≤ n.toInt ∧ i.toInt + n.toInt ≤ (M.1 260 s).toInt ∧ M.1 259 s = lane ∧ 0 ≤ M.1 259 s := by
  unfold mWhyS at h
  by_cases h1 : 0 ≤ M.1 259 s
  · rw [if_pos h1] at h
    by_cases h2 : M.1 259 s = lane
    · rw [if_pos h2] at h
      by_cases h3 : ¬ i < 0 ∧ ¬ n < 0 ∧ i.toInt64 + n.toInt64 ≤ (M.1 260 s).toInt64
      · obtain ⟨a, b, c⟩ := h3
        rw [Int32.lt_iff_toInt_lt] at a b
        rw [Int64.le_iff_toInt_le, u_add64, u_w] at c
        have e : (0 : Int32).toInt = 0 := rfl
        exact ⟨by omega, by omega, c, h2, h1⟩
      · rw [if_neg h3] at h; exact absurd h (by decide)
    · rw [if_neg h2] at h; exact absurd h (by decide)
  · rw [if_neg h1] at h; exact absurd h (by decide)
theorem u_cpyL {f g : Nat → Int64} {sp dp i : Nat} : vp_updL (va_cpy f g sp dp i) (dp + i) (f (sp + i)) = va_cpy f g sp dp (i + 1) := by
  funext j
  simp only [vp_updL, va_cpy]
  by_cases h : j = dp + i
  · subst h
    rw [if_pos rfl, if_pos (by omega)]
    congr 1; omega
  · rw [if_neg h]
    by_cases h2 : dp ≤ j ∧ j < dp + i
    · rw [if_pos h2, if_pos (by omega)]
    · rw [if_neg h2, if_neg (by omega)]
theorem u_set_rowL (M : uM) (k j : Nat) (r : Nat → Int64) (x : Int64) : uSetL (uRowL M k r) k j x = uRowL M k (vp_updL r j x) := by
  simp only [uSetL, uRowL, va_up_s]
  congr 2
  funext a
  by_cases h : a = k
  · subst h; rw [va_up_s, va_up_s]
  · rw [va_up_n h, va_up_n h, va_up_n h]
theorem u_row_selfL (M : uM) (k : Nat) : uRowL M k (M.2.1 k) = M := by
  simp only [uRowL]
  have : va_up M.2.1 k (M.2.1 k) = M.2.1 := by
    funext a
    by_cases h : a = k
    · subst h; rw [va_up_s]
    · rw [va_up_n h]
  rw [this]
theorem u_row1L (M : uM) (k : Nat) (r : Nat → Int64) (a : Nat) : (uRowL M k r).2.1 a = if a = k then r else M.2.1 a := rfl
theorem u_cpSL {M : uM} {k : Nat} {r g : Nat → Int64} {sp dp i j : Nat} {x : Int64} (hj : j = dp + i) (hx : x = r (sp + i)) : uSetL (uRowL M k (va_cpy r g sp dp i)) k j x = uRowL M k (va_cpy r g sp dp (i + 1)) := by
  subst hj; subst hx
  rw [u_set_rowL, u_cpyL]
theorem u_cp0L {M : uM} {k : Nat} {r : Nat → Int64} {sp dp : Nat} : M = uRowL M k (va_cpy r (M.2.1 k) sp dp 0) := by
  have : va_cpy r (M.2.1 k) sp dp 0 = M.2.1 k := by
    funext j
    simp only [va_cpy]
    rw [if_neg (by omega)]
  rw [this, u_row_selfL]
def uFillL (M : uM) (k b : Nat) (v : Int64) : Nat → uM
  | 0 => M
  | n + 1 => uSetL (uFillL M k b v n) k (b + n) v
/-- the items from a on are a word and 0 or 1 -/
def mTold (M : uM) (nw a k : Nat) : Bool := decide ((0 ≤ (M.2.1 261 (a + 2 * k)).toInt ∧ (M.2.1 261 (a + 2 * k)).toInt < nw) ∧ (0 ≤ (M.2.1 261 (a + 2 * k + 1)).toInt ∧ (M.2.1 261 (a + 2 * k + 1)).toInt ≤ 1))
def uWho (f : Nat → Int32) : Nat → Int64 × Int32 × Int32
  | 0 => (0, -4, -1)
  | p + 1 => if f p ≤ (uWho f p).2.2 then ((uWho f p).1 + (f p).toInt64, (uWho f p).2) else ((uWho f p).1 + (f p).toInt64, nI p, f p)
def mWho (M : uM) (n nw : Nat) (x1 x2 x3 x4 x5 : Int32) : Int32 :=
  if (0 ≤ x1.toInt ∧ x1.toInt ≤ 3) ∧ (0 ≤ x2.toInt ∧ x2.toInt ≤ 3) ∧ (1 ≤ x4.toInt ∧ x4.toInt ≤ 8) ∧ (x5 = -4 ∨ (0 ≤ x5.toInt ∧ x5.toInt < n)) then
    (if 0 ≤ mWhyS M (tn x1) x2 x3 (nI (2 * tn x4)) then
      (if uAll (mTold M nw (24 * tn x1 + tn x3)) true (tn x4) = true then
        (if x5 = -4 then (uWho (mLike M (24 * tn x1 + tn x3) (tn x4)) n).2.1
         else if (uWho (mLike M (24 * tn x1 + tn x3) (tn x4)) n).1 = 0 then 0
         else ((mLike M (24 * tn x1 + tn x3) (tn x4) (tn x5)).toInt64 * 1000000 / (uWho (mLike M (24 * tn x1 + tn x3) (tn x4)) n).1).toInt32)
       else -2)
     else mWhyS M (tn x1) x2 x3 (nI (2 * tn x4)))
  else -1
def mFilm (M : uM) (p w b : Nat) (lane : Int32) : Nat → uM
  | 0 => M
  | k + 1 => uSetL (mFilm M p w b lane k) 261 (b + k) (uCut lane (mPassIn (mFilm M p w b lane k) p w ((mFilm M p w b lane k).1 252 4 + nI k)).toInt64)
theorem mFilm_1 (M : uM) (p w b : Nat) (lane : Int32) : ∀ k, (mFilm M p w b lane k).1 = M.1
  | 0 => rfl
  | k + 1 => mFilm_1 M p w b lane k
def mSheet (M : uM) (s : Nat) (lane n : Int32) : uM := uFillL (uSet (uSet M 259 s lane) 260 s n) 261 (24 * s) 0 24
def mCopy (M : uM) (s i t j n : Nat) : uM :=
  let A := uRowL M 262 (va_cpy (M.2.1 261) (M.2.1 262) (24 * s + i) 0 n)
  uRowL A 261 (va_cpy (A.2.1 262) (A.2.1 261) 0 (24 * t + j) n)
theorem uAll_t {g : Nat → Bool} {b : Bool} : ∀ {n : Nat}, uAll g b n = true → ∀ k, k < n → g k = true
  | 0, _, k, hk => absurd hk (Nat.not_lt_zero k)
  | n + 1, h, k, hk => by
    have h2 : uAll g b n = true ∧ g n = true := by
      have : (uAll g b n && g n) = true := h
      rwa [Bool.and_eq_true] at this
    rcases Nat.lt_or_ge k n with q | q
    · exact uAll_t h2.1 k q
    · have : k = n := by omega
      rw [this]; exact h2.2
theorem u_l2i {x : Int64} {n : Nat} (h : 0 ≤ x.toInt ∧ x.toInt < n) (hn : n < 2 ^ 31) : tn x.toInt32 < n ∧ x.toInt32 = nI (tn x.toInt32) := by
  apply u_tn _ hn
  have e : x.toInt32.toInt = x.toInt := by
    rw [Int64.toInt_toInt32]
    exact Int.bmod_eq_of_le (by omega) (by omega)
  omega
theorem mHW_step (M : uM) (k : Nat) : mHW M (k + 1) = if mHWf M k = true then (if (mHW M k).2.2 ≤ mHWl M k then ((mHW M k).1 + 1, (mHW M k).2) else ((mHW M k).1 + 1, M.1 252 (79 + 3 * k), mHWl M k)) else mHW M k := rfl
theorem mWhyS_z {M : uM} {s : Nat} {lane i n : Int32} (h : 0 ≤ mWhyS M s lane i n) : mWhyS M s lane i n = 0 := by
  unfold mWhyS at h ⊢
  by_cases h1 : 0 ≤ M.1 259 s
  · rw [if_pos h1] at h ⊢
    by_cases h2 : M.1 259 s = lane
    · rw [if_pos h2] at h ⊢
      by_cases h3 : ¬ i < 0 ∧ ¬ n < 0 ∧ i.toInt64 + n.toInt64 ≤ (M.1 260 s).toInt64
      · rw [if_pos h3]
      · rw [if_neg h3] at h; exact absurd h (by decide)
    · rw [if_neg h2] at h; exact absurd h (by decide)
  · rw [if_neg h1] at h; exact absurd h (by decide)
