/-- words below i are as they were -/
def mJ (A u : uM) (i : Nat) : Prop := mFr A u ∧ u.1 254 = A.1 254 ∧ ∀ a, a < i → u.1 255 a = A.1 255 a
theorem mJ_refl (M : uM) (i : Nat) : mJ M M i := ⟨mFr_refl M, rfl, fun _ _ => rfl⟩
theorem mJ_trans {A B C : uM} {i : Nat} (h1 : mJ A B i) (h2 : mJ B C i) : mJ A C i := ⟨mFr_trans h1.1 h2.1, h2.2.1.trans h1.2.1, fun a h => (h2.2.2 a h).trans (h1.2.2 a h)⟩
theorem mJ_f {M : uM} {i j : Nat} {x : Int32} (h : j = 3 ∨ j = 4) : mJ M (uSet M 251 j x) i := ⟨mFr_f h, by rw [u_set_far (by decide)], fun a _ => by rw [u_set_far (by decide)]⟩
theorem mJ_r {M : uM} {i j : Nat} {x : Int32} (h : i ≤ j) : mJ M (uSet M 255 j x) i := ⟨mFr_r (Or.inr rfl), by rw [u_set_far (by decide)], fun a ha => by rw [u_set1, if_pos rfl, if_neg (by omega)]⟩
def mWdsPost (σ : Nat → Int32) (L : Nat → Int32) (ty : Nat) (u : uM) (r : Int32) (m : Nat) (A : Bool × Nat × Nat) : Prop :=
  if A.1 = true then u.1 251 4 = 0 ∧ u.1 251 3 = nI (tQ L ty A.2.1) ∧ tN L ty A.2.1 ≤ ty ∧ r = nI A.2.2 ∧ ∀ i, i < A.2.2 → u.1 255 i = nI (fW σ (tWs σ m i)).2
  else u.1 251 4 = 1 ∧ u.1 251 3 = nI (tQ L ty A.2.1)
/-- a letter of a word, by the reference's test and by the class's -/
theorem m_fit {bb lo zz : Nat} (hb : bb < 128) (h : 97 ≤ bb ∧ bb ≤ 102) (h0 : lo = 0 → zz = 0) (h1 : 0 < lo → 2 ^ (lo - 1) ≤ zz) (h2 : zz < 2 ^ lo) (hlo : lo ≤ 6) : (nI lo ≤ tIx 5 (nI bb) ↔ ¬ 2 ^ (bb - 97) ≤ zz) ∧ tIx 5 (nI bb) = nI (bb - 97) := by
  have e : tIx 5 (nI bb) = nI (bb - 97) := (m_abc ⟨bb, hb⟩).2 ((m_abc ⟨bb, hb⟩).1.mpr h)
  refine ⟨?_, e⟩
  rw [e, nI_le_iff (by omega) (by omega)]
  constructor
  · intro z
    have := Nat.pow_le_pow_right (show 0 < 2 by decide) z
    omega
  · intro z
    rcases Nat.lt_or_ge (bb - 97) lo with q | q
    · have h3 : 2 ^ (bb - 97) ≤ 2 ^ (lo - 1) := Nat.pow_le_pow_right (by decide) (by omega)
      have := h1 (by omega)
      omega
    · exact q
theorem m_nofit {bb lo : Nat} (hb : bb < 128) (h : ¬ (97 ≤ bb ∧ bb ≤ 102)) (hlo : lo ≤ 6) : ¬ nI lo ≤ tIx 5 (nI bb) := fun z => h ((m_abc ⟨bb, hb⟩).1.mp (Int32.le_trans (t_ge1 (lo := lo) (by omega)) z))
theorem fW_pos {σ : Nat → Int32} {m : Nat} (h : (fW σ m).1 ≠ m) : m < (fW σ m).1 := by
  have : m ≤ (fW σ m).1 := fWd_le σ 6 m 0 0
  omega
