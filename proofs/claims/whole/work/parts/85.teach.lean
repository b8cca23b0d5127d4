/-! teach and rest -/
theorem xRem_2 (M : uM) (k : Nat) : (xRem M k).2.1 = M.2.1 := by
  unfold xRem
  split <;> rfl
theorem rOwn_15 {M : uM} (O : rOwn M) : ∀ i, i < 8 → 15 ≤ M.2.2 6 i := by
  intro i hi
  obtain ⟨q, q1, q8, eq⟩ := (O.1 1 (Or.inl rfl)).1 i hi
  have eq' : M.2.2 6 i = 7 + 8 * q := eq
  omega
theorem xRem_far {M : uM} (O : rOwn M) {k a : Nat} (hk : k ≤ 8) (ha : 79 ≤ a ∨ a = 0) : (xRem M k).1 a = M.1 a := by
  have key : ∀ (N : uM) (k : Nat), (∃ q, 1 ≤ q ∧ q ≤ 8 ∧ N.2.2 6 k = 7 + 8 * q) → (xRem1 N k).1 a = N.1 a := by
    intro N k hq
    obtain ⟨q, q1, q8, eq⟩ := hq
    unfold xRem1
    rw [u_set_far (by omega), xMomCp_far (by omega)]
  unfold xRem
  by_cases h : k < 8
  · rw [if_pos h]
    exact key M k ((O.1 1 (Or.inl rfl)).1 k h)
  · rw [if_neg h]
    exact (key (shN M) 7 (((shN_O O).1 1 (Or.inl rfl)).1 7 (by decide))).trans (shN_1 M (by omega))
theorem mNotes_far {M : uM} {k a : Nat} (h1 : a ≠ 251) (h2 : a ≠ 256) : (mNotes M k).1 a = M.1 a := by
  unfold mNotes
  split
  · show (uSet _ 251 8 _).1 a = _
    rw [u_set_far h1, u_row_far h2, u_set_far h1, u_row_far h2]
  · rw [u_set_far h1, u_row_far h2]
theorem mNotes_251 {M : uM} {k j : Nat} (h : j ≠ 8) : (mNotes M k).1 251 j = M.1 251 j := by
  unfold mNotes
  split
  · show (uSet _ 251 8 _).1 251 j = _
    rw [u_set_by h, u_row_far (by decide), u_set_by h, u_row_far (by decide)]
  · rw [u_set_by h, u_row_far (by decide)]
theorem mNotes_2 (M : uM) (k : Nat) : (mNotes M k).2 = M.2 := by
  unfold mNotes
  split <;> rfl
/-- what the reference notes is its own -/
theorem mNotes_own {M u : uM} {k : Nat} (h252 : u.1 252 = M.1 252) (h256 : u.1 256 = M.1 256) : (mNotes u k).1 256 = (mNotes M k).1 256 ∧ (mNotes u k).1 251 8 = (mNotes M k).1 251 8 := by
  by_cases h : k = 8
  · subst h
    have e (M : uM) : (mNotes M 8).1 256 = va_cpy (M.1 252) (va_cpy (M.1 256) (M.1 256) 115 0 805) 0 805 115 := rfl
    have e2 (M : uM) : (mNotes M 8).1 251 8 = nI 8 := rfl
    rw [e, e, e2, e2, h252, h256]
    exact ⟨rfl, rfl⟩
  · have e (M : uM) : mNotes M k = uSet (uRow M 256 (va_cpy (M.1 252) (M.1 256) 0 (115 * k) 115)) 251 8 (nI (k + 1)) := if_neg h
    rw [e, e]
    refine ⟨?_, by rw [u_set_at, u_set_at]⟩
    rw [u_set_far (by decide), u_set_far (by decide), u_row_at, u_row_at, h252, h256]
/-- a step that remembers: a is what the class did in the ford of now, then the reference its own -/
theorem rAll_step {M a u : uM} {n nw k : Nat} (F : rFord M.1 1 (M.1 252) n nw) (P : rPast M 1 (M.1 256) k n nw) (R : rRest M)
    (ha2 : a.2 = (xRem M k).2) (hac : ∀ c, 15 ≤ c ∨ c = 0 → a.1 c = (xRem M k).1 c) (ha10 : a.1 1 10 = (xRem M k).1 1 10)
    (hu2 : u.2 = (mNotes a k).2) (huc : ∀ c, c ≠ 252 → u.1 c = (mNotes a k).1 c) (hs5 : ∀ w, w < nw → u.1 252 (67 + 2 * w) = M.1 252 (67 + 2 * w)) (F' : rFord u.1 1 (u.1 252) n nw) : rAll u := by
  have O := R.2.2.2
  have e252 : a.1 252 = M.1 252 := (hac 252 (by omega)).trans (xRem_far O P.1 (by omega))
  have e256 : a.1 256 = M.1 256 := (hac 256 (by omega)).trans (xRem_far O P.1 (by omega))
  have e251 : a.1 251 = M.1 251 := (hac 251 (by omega)).trans (xRem_far O P.1 (by omega))
  obtain ⟨n1, n2⟩ := mNotes_own (k := k) e252 e256
  refine rAll_note F P R ?_ (fun c h h' => ?_) ?_ ?_ ?_ ⟨?_, ?_, ?_⟩ (fun c h h1 h2 h3 => ?_) ?_ hs5 F'
  · rw [hu2, mNotes_2, ha2]
  · rw [huc c (by omega), mNotes_far (by omega) (by omega), hac c (by omega)]
  · rw [huc 1 (by decide), mNotes_far (by decide) (by decide), ha10]
  · rw [huc 256 (by decide), n1]
  · rw [huc 251 (by decide), n2]
  · rw [huc 251 (by decide), mNotes_251 (by decide), e251]
  · rw [huc 251 (by decide), mNotes_251 (by decide), e251]
  · rw [huc 251 (by decide), mNotes_251 (by decide), e251]
  · rw [huc c h2, mNotes_far h1 h3, hac c (by omega), xRem_far O P.1 (by omega)]
  · rw [huc 0 (by decide), mNotes_far (by decide) (by decide), hac 0 (by omega), xRem_far O P.1 (by omega)]
