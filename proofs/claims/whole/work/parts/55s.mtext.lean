/-! the reference's reading of a text -/
theorem m_dig : ∀ b : Fin 128, ((0 ≤ tIx 0 (nI b.val) ↔ 0 ≤ (nI b.val - 48).toInt ∧ (nI b.val - 48).toInt ≤ 9) ∧ (0 ≤ tIx 0 (nI b.val) → tIx 0 (nI b.val) = nI b.val - 48)) ∧ ((0 ≤ tIx 4 (nI b.val) ↔ 0 ≤ (nI b.val - 48).toInt ∧ (nI b.val - 48).toInt ≤ 1) ∧ (0 ≤ tIx 4 (nI b.val) → tIx 4 (nI b.val) = nI b.val - 48)) := by decide +kernel
theorem m_sep : ∀ b : Fin 128, (0 ≤ tIx 2 (nI b.val) ↔ nI b.val = 44) ∧ (0 ≤ tIx 1 (nI b.val) ↔ nI b.val = 59) := by decide +kernel
def mKind (c : Int32) : Int32 := if c = 112 then 0 else if c = 99 then 1 else if c = 116 then 2 else if c = 109 then 3 else if c = 104 then 4 else -1
theorem m_kind : ∀ b : Fin 128, (0 ≤ tIx 3 (nI b.val) ↔ 0 ≤ mKind (nI b.val)) ∧ (0 ≤ tIx 3 (nI b.val) → tIx 3 (nI b.val) = mKind (nI b.val)) := by decide +kernel
theorem m_abc : ∀ b : Fin 128, (0 ≤ tIx 5 (nI b.val) ↔ 97 ≤ b.val ∧ b.val ≤ 102) ∧ (0 ≤ tIx 5 (nI b.val) → tIx 5 (nI b.val) = nI (b.val - 97)) := by decide +kernel
/-- letters are those of a keyboard -/
def mLet (L : Nat → Int32) (n : Nat) : Prop := ∀ i, i < n → ∃ b, b < 128 ∧ L i = nI b
theorem mS {L : Nat → Int32} {n : Nat} (h : mLet L n) (m : Nat) : ∃ b, b < 128 ∧ tS L n m = nI b := by
  unfold tS tAt
  by_cases hm : tSk L n (tN L n m) < n
  · rw [if_pos hm]; exact h _ hm
  · rw [if_neg hm]; exact ⟨0, by decide, rfl⟩
/-- place, fault and what is read into have changed at most -/
def mFr (M u : uM) : Prop := (∀ k, k ≠ 251 → k ≠ 254 → k ≠ 255 → u.1 k = M.1 k) ∧ (∀ j, j ≠ 3 → j ≠ 4 → u.1 251 j = M.1 251 j) ∧ u.2 = M.2
theorem mFr_refl (M : uM) : mFr M M := ⟨fun _ _ _ _ => rfl, fun _ _ _ => rfl, rfl⟩
theorem mFr_trans {A B C : uM} (h1 : mFr A B) (h2 : mFr B C) : mFr A C := ⟨fun k a b c => (h2.1 k a b c).trans (h1.1 k a b c), fun j a b => (h2.2.1 j a b).trans (h1.2.1 j a b), h2.2.2.trans h1.2.2⟩
theorem mFr_f {M : uM} {j : Nat} {x : Int32} (h : j = 3 ∨ j = 4) : mFr M (uSet M 251 j x) := ⟨fun k a _ _ => u_set_far a, fun i a b => by rw [u_set1, if_pos rfl, if_neg (by omega)], rfl⟩
theorem mFr_r {M : uM} {k j : Nat} {x : Int32} (h : k = 254 ∨ k = 255) : mFr M (uSet M k j x) := ⟨fun i a b c => u_set_far (by omega), fun i _ _ => by rw [u_set_far (by omega)], rfl⟩
