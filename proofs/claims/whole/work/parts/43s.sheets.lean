/-! sheets of the class, by a number that is a variable; likes; proofs -/
def uSh (q : Nat) : Prop := ∃ i, i < 4 ∧ q = 243 + 2 * i
theorem uSh_lt {q : Nat} (h : uSh q) : 243 ≤ q ∧ q + 1 < 251 := by
  obtain ⟨i, hi, rfl⟩ := h
  omega
theorem uSh4 {P : Nat → Prop} (h0 : P 243) (h1 : P 245) (h2 : P 247) (h3 : P 249) {q : Nat} (hq : uSh q) : P q := by
  obtain ⟨i, hi, rfl⟩ := hq
  rcases (show i = 0 ∨ i = 1 ∨ i = 2 ∨ i = 3 by omega) with rfl | rfl | rfl | rfl <;> assumption
theorem uc_s0 {q : Nat} (hq : uSh q) (E : uE) (M : uM) : uCell E M q = .inr (4, [.int (M.1 q 0), .int (M.1 q 1), .int (M.1 q 2), .ref (E.2.1 (q + 1))]) := by
  revert hq; exact uSh4 (P := fun q => uCell E M q = .inr (4, [.int (M.1 q 0), .int (M.1 q 1), .int (M.1 q 2), .ref (E.2.1 (q + 1))])) rfl rfl rfl rfl
theorem uc_s1 {q : Nat} (hq : uSh q) (E : uE) (M : uM) : uCell E M (q + 1) = .inl (E.2.2 1, 24, .inr (.inl (M.2.1 (q + 1)))) := by
  revert hq; exact uSh4 (P := fun q => uCell E M (q + 1) = .inl (E.2.2 1, 24, .inr (.inl (M.2.1 (q + 1))))) rfl rfl rfl rfl
theorem us_s0_0 {q : Nat} (hq : uSh q) (E : uE) (M : uM) (x : Int32) : (.inr (4, List.set [.int (M.1 q 0), .int (M.1 q 1), .int (M.1 q 2), .ref (E.2.1 (q + 1))] 0 (.int x)) : va_E) = uCell E (uSet M q 0 x) q := by
  rw [uc_s0 hq]; simp [uSet, va_up, upd]
theorem us_s0_1 {q : Nat} (hq : uSh q) (E : uE) (M : uM) (x : Int32) : (.inr (4, List.set [.int (M.1 q 0), .int (M.1 q 1), .int (M.1 q 2), .ref (E.2.1 (q + 1))] 1 (.int x)) : va_E) = uCell E (uSet M q 1 x) q := by
  rw [uc_s0 hq]; simp [uSet, va_up, upd]
theorem us_s0_2 {q : Nat} (hq : uSh q) (E : uE) (M : uM) (x : Int32) : (.inr (4, List.set [.int (M.1 q 0), .int (M.1 q 1), .int (M.1 q 2), .ref (E.2.1 (q + 1))] 2 (.int x)) : va_E) = uCell E (uSet M q 2 x) q := by
  rw [uc_s0 hq]; simp [uSet, va_up, upd]
def xReach (M : uM) (q : Nat) (i n : Int32) : Prop := 0 ≤ i.toInt ∧ 0 ≤ n.toInt ∧ i.toInt + n.toInt ≤ (M.1 q 2).toInt
def xWhyS (M : uM) (q : Nat) (lane i n : Int32) : Int32 :=
  if M.1 q 0 = 0 then -11 else if M.1 q 1 = lane then (if 0 ≤ i.toInt ∧ 0 ≤ n.toInt ∧ i.toInt + n.toInt ≤ (M.1 q 2).toInt then 0 else -13) else -12
theorem xWhyS_ok {M : uM} {q : Nat} {lane i n : Int32} (h : xWhyS M q lane i n = 0) : ¬ M.1 q 0 = 0 ∧ M.1 q 1 = lane ∧ 0 ≤ i.toInt ∧ 0 ≤ n.toInt ∧ i.toInt + n.toInt ≤ (M.1 q 2).toInt := by
  unfold xWhyS at h
  by_cases h1 : M.1 q 0 = 0
  · rw [if_pos h1] at h; exact absurd h (by decide)
  · rw [if_neg h1] at h
    by_cases h2 : M.1 q 1 = lane
    · rw [if_pos h2] at h
      by_cases h3 : 0 ≤ i.toInt ∧ 0 ≤ n.toInt ∧ i.toInt + n.toInt ≤ (M.1 q 2).toInt
      · exact ⟨h1, h2, h3⟩
      · rw [if_neg h3] at h; exact absurd h (by decide)
    · rw [if_neg h2] at h; exact absurd h (by decide)
def xBegin (M : uM) (q : Nat) (lane n : Int32) : uM := uFillL (uSet (uSet (uSet M q 0 1) q 1 lane) q 2 n) (q + 1) 0 0 24
def xTold (nw : Nat) (L : Nat → Int64) (a k : Nat) : Bool := decide (¬ L (a + 2 * k) < 0 ∧ ¬ (nI nw).toInt64 ≤ L (a + 2 * k) ∧ ¬ L (a + 2 * k + 1) < 0 ∧ L (a + 2 * k + 1) ≤ 1)
def pb (i b : Nat) : Int32 := if i = 0 then -4 else nI b
theorem pb_iff {i b : Nat} (hb : b < 64) : pb i b = -4 ↔ i = 0 := by
  unfold pb
  by_cases h : i = 0
  · rw [if_pos h]; exact ⟨fun _ => h, fun _ => rfl⟩
  · rw [if_neg h]; exact ⟨fun z => absurd z (pv_ne ⟨b, hb⟩), fun z => absurd z h⟩
def xBst (L : Nat → Int64) : Nat → Nat
  | 0 => 0
  | p + 1 => if p = 0 then 0 else if L p ≤ L (xBst L p) then xBst L p else p
theorem popnwf : ∀ (n : Fin 7) (s : Fin 64), s.val < 2 ^ n.val → pop s.val ≤ n.val := by decide +kernel
theorem popnw {n s : Nat} (hn : n ≤ 6) (hs : s < 2 ^ n) : pop s ≤ n := by
  have h64 : 2 ^ n ≤ 2 ^ 6 := Nat.pow_le_pow_right (by decide) hn
  exact popnwf ⟨n, by omega⟩ ⟨s, by omega⟩ hs
theorem uAll_n {g : Nat → Bool} {b : Bool} {i n : Nat} (h : g i = false) (hi : i < n) : uAll g b n = false := by
  have h1 : uAll g b (i + 1) = false := by
    show (uAll g b i && g i) = false
    rw [h, Bool.and_false]
  rw [show n = i + 1 + (n - (i + 1)) by omega]
  exact uAll_f h1 _
