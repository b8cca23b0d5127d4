/-- speakers below i are as they were -/
def mK (A u : uM) (i : Nat) : Prop := mFr A u ∧ u.1 255 = A.1 255 ∧ ∀ a, a < 8 * i → u.1 254 a = A.1 254 a
theorem mK_refl (M : uM) (i : Nat) : mK M M i := ⟨mFr_refl M, rfl, fun _ _ => rfl⟩
theorem mK_trans {A B C : uM} {i : Nat} (h1 : mK A B i) (h2 : mK B C i) : mK A C i := ⟨mFr_trans h1.1 h2.1, h2.2.1.trans h1.2.1, fun a h => (h2.2.2 a h).trans (h1.2.2 a h)⟩
theorem mK_f {M : uM} {i j : Nat} {x : Int32} (h : j = 3 ∨ j = 4) : mK M (uSet M 251 j x) i := ⟨mFr_f h, by rw [u_set_far (by decide)], fun a _ => by rw [u_set_far (by decide)]⟩
theorem mK_r {M : uM} {i j : Nat} {x : Int32} (h : 8 * i ≤ j) : mK M (uSet M 254 j x) i := ⟨mFr_r (Or.inl rfl), by rw [u_set_far (by decide)], fun a ha => by rw [u_set1, if_pos rfl, if_neg (by omega)]⟩
def mDat (σ : Nat → Int32) (u : uM) (i m : Nat) : Prop := u.1 254 (8 * i) = tIx 3 (σ m) ∧ u.1 254 (8 * i + 1) = tIx 4 (σ (m + 1)) ∧ ∀ j, j < 6 → u.1 254 (8 * i + 2 + j) = tIx 0 (σ (m + 2 + j))
theorem mDat_keep {A B : uM} {n i m : Nat} {σ : Nat → Int32} (h : mK A B n) (hi : i < n) (d : mDat σ A i m) : mDat σ B i m :=
  ⟨(h.2.2 _ (by omega)).trans d.1, (h.2.2 _ (by omega)).trans d.2.1, fun j hj => (h.2.2 _ (by omega)).trans (d.2.2 j hj)⟩
theorem tN_p {L : Nat → Int32} {n x : Nat} (h : 0 < x) : tN L n x = tQ L n (x - 1) + 1 := by
  obtain ⟨y, rfl⟩ : ∃ y, x = y + 1 := ⟨x - 1, by omega⟩
  rfl
theorem mS_dig {L : Nat → Int32} {n : Nat} (hl : mLet L n) (m : Nat) : ((0 ≤ tIx 0 (tS L n m) ↔ 0 ≤ (tS L n m - 48).toInt ∧ (tS L n m - 48).toInt ≤ 9) ∧ (0 ≤ tIx 0 (tS L n m) → tIx 0 (tS L n m) = tS L n m - 48)) ∧ ((0 ≤ tIx 4 (tS L n m) ↔ 0 ≤ (tS L n m - 48).toInt ∧ (tS L n m - 48).toInt ≤ 1) ∧ (0 ≤ tIx 4 (tS L n m) → tIx 4 (tS L n m) = tS L n m - 48)) := by
  obtain ⟨b, hb, e⟩ := mS hl m
  rw [e]; exact m_dig ⟨b, hb⟩
theorem mS_sep {L : Nat → Int32} {n : Nat} (hl : mLet L n) (m : Nat) : (0 ≤ tIx 2 (tS L n m) ↔ tS L n m = 44) ∧ (0 ≤ tIx 1 (tS L n m) ↔ tS L n m = 59) := by
  obtain ⟨b, hb, e⟩ := mS hl m
  rw [e]; exact m_sep ⟨b, hb⟩
theorem mS_kind {L : Nat → Int32} {n : Nat} (hl : mLet L n) (m : Nat) : (0 ≤ tIx 3 (tS L n m) ↔ 0 ≤ mKind (tS L n m)) ∧ (0 ≤ tIx 3 (tS L n m) → tIx 3 (tS L n m) = mKind (tS L n m)) := by
  obtain ⟨b, hb, e⟩ := mS hl m
  rw [e]; exact m_kind ⟨b, hb⟩
def mSpsPost (σ : Nat → Int32) (L : Nat → Int32) (ty : Nat) (u : uM) (r : Int32) (m : Nat) (A : Bool × Nat × Nat) : Prop :=
  if A.1 = true then u.1 251 4 = 0 ∧ u.1 251 3 = nI (tQ L ty A.2.1) ∧ tN L ty A.2.1 ≤ ty ∧ r = nI A.2.2 ∧ ∀ i, i < A.2.2 → mDat σ u i (m + 9 * i)
  else u.1 251 4 = 1 ∧ u.1 251 3 = nI (tQ L ty A.2.1)
