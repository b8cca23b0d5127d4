/-! speakers of a text, words of a text -/
def fSps (σ : Nat → Int32) : Nat → Nat → Nat → Bool × Nat × Nat
  | m, i, 0 => (false, m, i)
  | m, i, f + 1 => if fRun σ m 0 8 = 8 then (if 0 ≤ tIx 2 (σ (m + 8)) then (if f = 0 then (false, m + 8, i + 1) else fSps σ (m + 8 + 1) (i + 1) f) else (true, m + 8, i + 1)) else (false, m + fRun σ m 0 8, i)
def fAft (σ : Nat → Int32) (x i f : Nat) : Bool × Nat × Nat := if 0 ≤ tIx 2 (σ x) then (if f = 0 then (false, x, i) else fSps σ (x + 1) i f) else (true, x, i)
theorem fSps_g {σ : Nat → Int32} {m i f : Nat} (h : fRun σ m 0 8 = 8) : fSps σ m i (f + 1) = fAft σ (m + 8) (i + 1) f := if_pos h
theorem fSps_b {σ : Nat → Int32} {m i f : Nat} (h : ¬ fRun σ m 0 8 = 8) : fSps σ m i (f + 1) = (false, m + fRun σ m 0 8, i) := if_neg h
theorem fAft_c {σ : Nat → Int32} {x i f : Nat} (h : 0 ≤ tIx 2 (σ x)) (hf : f ≠ 0) : fAft σ x i f = fSps σ (x + 1) i f := by unfold fAft; rw [if_pos h, if_neg hf]
theorem fAft_n {σ : Nat → Int32} {x i f : Nat} (h : ¬ 0 ≤ tIx 2 (σ x)) : fAft σ x i f = (true, x, i) := if_neg h
theorem fAft_0 (σ : Nat → Int32) (x i : Nat) : (fAft σ x i 0).2 = (x, i) ∧ (0 ≤ tIx 2 (σ x) → fAft σ x i 0 = (false, x, i)) := by
  unfold fAft
  by_cases h : 0 ≤ tIx 2 (σ x)
  · rw [if_pos h, if_pos rfl]; exact ⟨rfl, fun _ => rfl⟩
  · rw [if_neg h]; exact ⟨rfl, fun z => absurd z h⟩
theorem tIx1 {c : Int32} (h : 0 ≤ tIx 1 c) : c.toInt8.toInt32 = 59 := by
  unfold tIx at h
  by_cases h1 : c < 0
  · rw [if_pos h1] at h; exact absurd h (by decide)
  · rw [if_neg h1] at h
    by_cases h2 : 255 < c
    · rw [if_pos h2] at h; exact absurd h (by decide)
    · rw [if_neg h2] at h
      by_cases h3 : (59 : Int32) = c.toInt8.toInt32
      · exact h3.symm
      · have : tIxF 1 c.toInt8.toInt32 0 1 = -1 := (if_neg h3)
        rw [show tLen.getD 1 0 = 1 from rfl, this] at h; exact absurd h (by decide)
theorem t12 {c : Int32} (h : 0 ≤ tIx 1 c) : ¬ 0 ≤ tIx 2 c := by
  intro z
  have e := tIx1 h
  unfold tIx at z
  rw [e] at z
  by_cases h1 : c < 0
  · rw [if_pos h1] at z; exact absurd z (by decide)
  · rw [if_neg h1] at z
    by_cases h2 : 255 < c
    · rw [if_pos h2] at z; exact absurd z (by decide)
    · rw [if_neg h2] at z; exact absurd z (by decide)
theorem tI_weak {A B : uM} {n : Nat} (h : tI A B n) : tI A B 0 := ⟨h.1, h.2.1, h.2.2.1, h.2.2.2.1, h.2.2.2.2.1, fun _ z => absurd z (Nat.not_lt_zero _), fun _ z => absurd z (by omega)⟩
theorem tDat_keep {A B : uM} {n i m : Nat} {σ : Nat → Int32} (h : tI A B n) (hi : i < n) (d : tDat σ A i m) : tDat σ B i m := by
  obtain ⟨a, b, c, e⟩ := h.2.2.2.2.2.1 i hi
  refine ⟨⟨a.trans d.1.1, b.trans d.1.2.1, c.trans d.1.2.2.1, e.trans d.1.2.2.2⟩, fun j hj => ?_⟩
  rw [h.2.2.2.2.2.2 (i * 6 + j) (by omega)]
  exact d.2 j hj
theorem tDat_place {A : uM} {i m : Nat} {σ : Nat → Int32} {x : Int32} (d : tDat σ A i m) : tDat σ (uSet A 240 2 x) i m := tDat_keep (n := i + 1) (tI_place A x (i + 1)) (by omega) d
def tSpsPost (σ : Nat → Int32) (L : Nat → Int32) (ty : Nat) (u : uM) (r : Int32) (m : Nat) (A : Bool × Nat × Nat) : Prop :=
  if A.1 = true ∧ 0 ≤ tIx 1 (σ A.2.1) then r = 1 ∧ u.1 157 0 = nI A.2.2 ∧ u.1 240 2 = nI (tN L ty (A.2.1 + 1)) ∧ tN L ty (A.2.1 + 1) ≤ ty ∧ ∀ i, i < A.2.2 → tDat σ u i (m + 9 * i)
  else r = 0 ∧ u.1 240 2 = nI (tQ L ty A.2.1)
theorem tSps_if {r : Int32} {P X Y : Prop} [Decidable P] (h : if P then r = 1 ∧ X else r = 0 ∧ Y) : r = if P then 1 else 0 := by
  by_cases hp : P
  · rw [if_pos hp] at h ⊢; exact h.1
  · rw [if_neg hp] at h ⊢; exact h.1
theorem tQ_le {L : Nat → Int32} {n m : Nat} (h : tN L n m ≤ n) : tQ L n m ≤ n := (tSk_le L h).2
