/-! THE WORLD: all cells of the class's object and of the reference's, by number; a memory that says what they hold.
 Cells 0 .. 250: FordWord and what hangs on it; 251 .. 262: FordWordModel and its arrays.
 Memory: ints by cell and place, longs by cell and place, references (numbers of cells) by cell and place. -/
abbrev uM : Type := (Nat → Nat → Int32) × (Nat → Nat → Int64) × (Nat → Nat → Nat)
/-- class ids and slots, addresses of the cells, classes of the arrays (0 int, 1 long, 2 char, 3 Moment, 4 Sheet) -/
abbrev uE : Type := va_G × (Nat → Nat) × (Nat → ClassId)
/-- cell j of a moment -/
def uMomCell (E : uE) (r : Nat → Int32) (q j : Nat) : va_E :=
  if j = 0 then .inr (3, [.ref (E.2.1 (q + 1)), .ref (E.2.1 (q + 2)), .ref (E.2.1 (q + 3)), .ref (E.2.1 (q + 4)), .int (r 4), .int (r 5)])
  else if j < 4 then .inl (E.2.2 0, 6, .inl r)
  else if j = 4 then .inr (0, [.int (r 0), .ref (E.2.1 (q + 5)), .ref (E.2.1 (q + 6)), .ref (E.2.1 (q + 7))])
  else .inl (E.2.2 0, 12, .inl r)
/-- cell j of a ford at b -/
def uFordCell (E : uE) (r : Nat → Int32) (pr : Nat → Nat) (b j : Nat) : va_E :=
  if j = 0 then .inr (1, [.int (r 0), .ref (E.2.1 (b + 1)), .ref (E.2.1 (b + 2)), .ref (E.2.1 (b + 3)), .int (r 4), .ref (E.2.1 (b + 4)), .int (r 6), .int (r 7), .ref (E.2.1 (b + 6)), .ref (E.2.1 (b + 5)), .int (r 10)])
  else if j = 3 then .inl (E.2.2 0, 36, .inl r)
  else if j < 5 then .inl (E.2.2 0, 6, .inl r)
  else if j = 5 then .inl (E.2.2 3, 8, .inr (.inr (.inr (.inr (fun i => some (E.2.1 (pr i)))))))
  else uMomCell E r (b + 6 + 8 * ((j - 6) / 8)) ((j - 6) % 8)
/-- cell j of the sheets, from 243 on -/
def uShCell (E : uE) (r : Nat → Int32) (lr : Nat → Int64) (k : Nat) : va_E :=
  if (k - 243) % 2 = 0 then .inr (4, [.int (r 0), .int (r 1), .int (r 2), .ref (E.2.1 (k + 1))])
  else .inl (E.2.2 1, 24, .inr (.inl lr))
/-- cell j of the model -/
def uModCell (E : uE) (r : Nat → Int32) (lr : Nat → Int64) (j : Nat) : va_E :=
  if j = 0 then .inr (7, [.ref (E.2.1 252), .ref (E.2.1 253), .int (r 2), .int (r 3), .int (r 4), .ref (E.2.1 254), .ref (E.2.1 255), .ref (E.2.1 256), .int (r 8), .ref (E.2.1 257), .ref (E.2.1 258), .int (r 11), .int (r 12), .ref (E.2.1 259), .ref (E.2.1 260), .ref (E.2.1 261), .ref (E.2.1 262)])
  else if j = 1 then .inl (E.2.2 0, 115, .inl r)
  else if j = 2 then .inl (E.2.2 0, 90, .inl r)
  else if j = 3 then .inl (E.2.2 0, 48, .inl r)
  else if j = 4 then .inl (E.2.2 0, 6, .inl r)
  else if j = 5 then .inl (E.2.2 0, 920, .inl r)
  else if j = 6 then .inl (E.2.2 0, 64, .inl r)
  else if j = 7 then .inl (E.2.2 0, 1035, .inl r)
  else if j = 8 then .inl (E.2.2 0, 4, .inl r)
  else if j = 9 then .inl (E.2.2 0, 4, .inl r)
  else if j = 10 then .inl (E.2.2 1, 96, .inr (.inl lr))
  else .inl (E.2.2 1, 24, .inr (.inl lr))
def uCellR (E : uE) (r : Nat → Int32) (lr : Nat → Int64) (pr : Nat → Nat) (k : Nat) : va_E :=
  if k = 0 then .inr (6, [.ref (E.2.1 1), .ref (E.2.1 79), .int (r 2), .ref (E.2.1 235), .ref (E.2.1 240), .ref (E.2.1 242)])
  else if k < 79 then uFordCell E r pr 1 (k - 1)
  else if k < 157 then uFordCell E r pr 79 (k - 79)
  else if k < 235 then uFordCell E r pr 157 (k - 157)
  else if k = 235 then .inr (2, [.ref (E.2.1 1), .ref (E.2.1 236), .ref (E.2.1 237), .ref (E.2.1 238), .ref (E.2.1 239)])
  else if k = 236 then .inl (E.2.2 0, 36, .inl r)
  else if k = 237 then .inl (E.2.2 0, 64, .inl r)
  else if k = 238 then .inl (E.2.2 0, 36, .inl r)
  else if k = 239 then .inl (E.2.2 1, 6, .inr (.inl lr))
  else if k = 240 then .inr (5, [.ref (E.2.1 241), .int (r 1), .int (r 2), .ref (E.2.1 157)])
  else if k = 241 then .inl (E.2.2 2, 90, .inl r)
  else if k = 242 then .inl (E.2.2 4, 4, .inr (.inr (.inr (.inr (fun i => some (E.2.1 (243 + 2 * i)))))))
  else if k < 251 then uShCell E r lr k
  else uModCell E r lr (k - 251)
def uCell (E : uE) (M : uM) (k : Nat) : va_E := uCellR E (M.1 k) (M.2.1 k) (M.2.2 k) k
def uw (E : uE) (M : uM) : va_W := (List.range 263).map fun k => (E.2.1 k, uCell E M k)
def uTys (E : uE) : List (ClassId × FieldType) := [(E.2.2 0, .int), (E.2.2 1, .long), (E.2.2 2, .char), (E.2.2 3, .object "FordWord$Moment"), (E.2.2 4, .object "FordWord$Sheet")]
/-- words of nest mates' links -/
def uNest : List Cond := [.methodLinkNest RX1 82 yX6_has RX6, .methodLinkNest RX2 101 yX6_has RX6]
def uN (U : State) : Prop := va_Nw (.methodLinkNest RX1 82 yX6_has RX6) U ∧ va_Nw (.methodLinkNest RX2 101 yX6_has RX6) U
def uP (E : uE) (M : uM) (U : State) : Prop := va_P E.1 vwCl (uw E M) U.heap
def uB (E : uE) (M : uM) (U : State) : Prop := va_P E.1 vwCl (uw E M) U.heap ∧ va_K E.1 vwCl (uTys E) U ∧ uN U
def uA (E : uE) : Nat → Prop := fun q => ∃ k, k < 263 ∧ q = E.2.1 k
def uI (E : uE) : Prop := ∀ i j, i < 263 → j < 263 → E.2.1 i = E.2.1 j → i = j
theorem uw_at (E : uE) (M : uM) {k : Nat} (hk : k < 263) : (uw E M)[k]? = some (E.2.1 k, uCell E M k) := by
  simp [uw, hk]
theorem uw_of {E : uE} {M : uM} {k : Nat} {q : Nat × va_E} (h : (uw E M)[k]? = some q) : k < 263 ∧ q = (E.2.1 k, uCell E M k) := by
  have hk : k < 263 := by
    have := (List.getElem?_eq_some_iff.mp h).1
    simpa [uw] using this
  rw [uw_at E M hk] at h
  exact ⟨hk, (Option.some.inj h).symm⟩
theorem uw_D {E : uE} (hI : uI E) (M : uM) : va_D (uA E) (uw E M) := by
  refine ⟨fun i j p q hi hj hpq => ?_, fun k q hk => ?_⟩
  · obtain ⟨a1, a2⟩ := uw_of hi
    obtain ⟨b1, b2⟩ := uw_of hj
    subst a2; subst b2
    exact hI i j a1 b1 hpq
  · obtain ⟨a1, a2⟩ := uw_of hk
    subst a2
    exact ⟨k, a1, rfl⟩
theorem uw_set {E : uE} {M M' : uM} {k : Nat} {e : va_E} (he : e = uCell E M' k) (ho : ∀ j, j ≠ k → uCell E M' j = uCell E M j) : (uw E M).set k (E.2.1 k, e) = uw E M' := by
  apply List.ext_getElem?
  intro j
  by_cases hj : j = k
  · subst hj
    by_cases hk : j < 263
    · rw [List.getElem?_set_self (by simpa [uw] using hk), uw_at E M' hk, he]
    · have h1 : (uw E M).set j (E.2.1 j, e) = uw E M := List.set_eq_of_length_le (by simp [uw]; omega)
      rw [h1, List.getElem?_eq_none (by simp [uw]; omega), List.getElem?_eq_none (by simp [uw]; omega)]
  · rw [List.getElem?_set_ne (Ne.symm hj)]
    by_cases hk : j < 263
    · rw [uw_at E M hk, uw_at E M' hk, ho j hj]
    · rw [List.getElem?_eq_none (by simp [uw]; omega), List.getElem?_eq_none (by simp [uw]; omega)]
theorem va_up_s {α : Type} {f : Nat → α} {k : Nat} {v : α} : va_up f k v k = v := by simp [va_up]
theorem va_up_n {α : Type} {f : Nat → α} {k j : Nat} {v : α} (h : j ≠ k) : va_up f k v j = f j := by simp [va_up, h]
/-- the memory with an int put, a row of ints put -/
def uSet (M : uM) (k j : Nat) (x : Int32) : uM := (va_up M.1 k (upd (M.1 k) j x), M.2)
def uRow (M : uM) (k : Nat) (r : Nat → Int32) : uM := (va_up M.1 k r, M.2)
def uSetL (M : uM) (k j : Nat) (x : Int64) : uM := (M.1, va_up M.2.1 k (vp_updL (M.2.1 k) j x), M.2.2)
def uRowL (M : uM) (k : Nat) (r : Nat → Int64) : uM := (M.1, va_up M.2.1 k r, M.2.2)
def uSetP (M : uM) (k j : Nat) (x : Nat) : uM := (M.1, M.2.1, va_up M.2.2 k (va_up (M.2.2 k) j x))
theorem uCell_row (E : uE) (M : uM) {k j : Nat} (r : Nat → Int32) (h : j ≠ k) : uCell E (uRow M k r) j = uCell E M j := by simp [uCell, uRow, va_up_n h]
theorem uCell_set (E : uE) (M : uM) {k j i : Nat} (x : Int32) (h : j ≠ k) : uCell E (uSet M k i x) j = uCell E M j := by simp [uCell, uSet, va_up_n h]
theorem uCell_rowL (E : uE) (M : uM) {k j : Nat} (r : Nat → Int64) (h : j ≠ k) : uCell E (uRowL M k r) j = uCell E M j := by simp [uCell, uRowL, va_up_n h]
theorem uCell_setL (E : uE) (M : uM) {k j i : Nat} (x : Int64) (h : j ≠ k) : uCell E (uSetL M k i x) j = uCell E M j := by simp [uCell, uSetL, va_up_n h]
theorem uCell_setP (E : uE) (M : uM) {k j i : Nat} (x : Nat) (h : j ≠ k) : uCell E (uSetP M k i x) j = uCell E M j := by simp [uCell, uSetP, va_up_n h]
