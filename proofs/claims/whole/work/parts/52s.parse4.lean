def tWs (σ : Nat → Int32) (m : Nat) : Nat → Nat
  | 0 => m
  | i + 1 => (fW σ (tWs σ m i)).1 + 1
def fWds (σ : Nat → Int32) : Nat → Nat → Nat → Bool × Nat × Nat
  | m, i, 0 => (false, m, i)
  | m, i, f + 1 => if (fW σ m).1 ≠ m then (if 0 ≤ tIx 2 (σ (fW σ m).1) then (if f = 0 then (false, (fW σ m).1, i + 1) else fWds σ ((fW σ m).1 + 1) (i + 1) f) else (true, (fW σ m).1, i + 1)) else (false, m, i)
def fAfW (σ : Nat → Int32) (x i f : Nat) : Bool × Nat × Nat := if 0 ≤ tIx 2 (σ x) then (if f = 0 then (false, x, i) else fWds σ (x + 1) i f) else (true, x, i)
theorem fWds_g {σ : Nat → Int32} {m i f : Nat} (h : (fW σ m).1 ≠ m) : fWds σ m i (f + 1) = fAfW σ (fW σ m).1 (i + 1) f := if_pos h
theorem fWds_b {σ : Nat → Int32} {m i f : Nat} (h : ¬ (fW σ m).1 ≠ m) : fWds σ m i (f + 1) = (false, m, i) := if_neg h
theorem fAfW_c {σ : Nat → Int32} {x i f : Nat} (h : 0 ≤ tIx 2 (σ x)) (hf : f ≠ 0) : fAfW σ x i f = fWds σ (x + 1) i f := by unfold fAfW; rw [if_pos h, if_neg hf]
theorem fAfW_n {σ : Nat → Int32} {x i f : Nat} (h : ¬ 0 ≤ tIx 2 (σ x)) : fAfW σ x i f = (true, x, i) := if_neg h
theorem fAfW_0 (σ : Nat → Int32) (x i : Nat) : (fAfW σ x i 0).2 = (x, i) := by
  unfold fAfW
  by_cases h : 0 ≤ tIx 2 (σ x)
  · rw [if_pos h, if_pos rfl]
  · rw [if_neg h]
theorem t20 {c : Int32} (h : c = 0) : ¬ 0 ≤ tIx 2 c := by subst h; decide
def tWdsPost (σ : Nat → Int32) (L : Nat → Int32) (ty : Nat) (u : uM) (r : Int32) (m : Nat) (A : Bool × Nat × Nat) : Prop :=
  if A.1 = true ∧ σ A.2.1 = 0 then r = 1 ∧ u.1 157 4 = nI A.2.2 ∧ ∀ i, i < A.2.2 → u.1 161 i = nI (fW σ (tWs σ m i)).2 ∧ u.1 166 i = 0
  else r = 0 ∧ u.1 240 2 = nI (tQ L ty A.2.1)
/-- a whole text: is it one; where its fault is -/
def fAll (σ : Nat → Int32) : Bool × Nat :=
  if 0 ≤ tIx 0 (σ 0) then (if 0 ≤ tIx 1 (σ 1) then
    (if (fSps σ 2 0 6).1 = true ∧ 0 ≤ tIx 1 (σ (fSps σ 2 0 6).2.1) then
      (if (fWds σ ((fSps σ 2 0 6).2.1 + 1) 0 6).1 = true ∧ σ (fWds σ ((fSps σ 2 0 6).2.1 + 1) 0 6).2.1 = 0 then (true, (fWds σ ((fSps σ 2 0 6).2.1 + 1) 0 6).2.1) else (false, (fWds σ ((fSps σ 2 0 6).2.1 + 1) 0 6).2.1))
    else (false, (fSps σ 2 0 6).2.1)) else (false, 1)) else (false, 0)
/-- what a ford that a text was read into holds -/
def tRead (σ : Nat → Int32) (u : uM) : Prop := u.1 157 0 = nI (fSps σ 2 0 6).2.2 ∧ u.1 157 4 = nI (fWds σ ((fSps σ 2 0 6).2.1 + 1) 0 6).2.2 ∧ u.1 157 6 = tIx 0 (σ 0) ∧ (∀ i, i < (fSps σ 2 0 6).2.2 → tDat σ u i (2 + 9 * i)) ∧ ∀ i, i < (fWds σ ((fSps σ 2 0 6).2.1 + 1) 0 6).2.2 → u.1 161 i = nI (fW σ (tWs σ ((fSps σ 2 0 6).2.1 + 1) i)).2 ∧ u.1 166 i = 0
theorem tDat_J {A B : uM} {w i m : Nat} {σ : Nat → Int32} (h : tJ A B w) (d : tDat σ A i m) : tDat σ B i m := by
  obtain ⟨a, b, c, e, f⟩ := h.2.2.2.1
  unfold tDat
  rw [a, b, c, e, f]
  exact d
