/-! numbers that the last calls of the face are given -/
theorem u_k {x : Int32} {m : Nat} (h1 : -1 ≤ x) (h2 : x < nI m) (h3 : ¬ x = -1) (hm : m < 64) : tn x < m ∧ x = nI (tn x) := by
  rw [Int32.le_iff_toInt_le] at h1
  rw [Int32.lt_iff_toInt_lt, nI_toInt (by omega)] at h2
  have h5 : (-1 : Int32).toInt = -1 := rfl
  have h4 : x.toInt ≠ -1 := fun z => h3 (Int32.toInt_inj.mp (by rw [z]; rfl))
  exact u_tn ⟨by omega, by omega⟩ (by omega)
theorem u_those (M : uM) {n : Nat} (hn : n ≤ 6) (x : Int32) : xThose M n x < 2 ^ n ∧ xThose M n x < 64 ∧ pop (xThose M n x) ≤ n := by
  have h1 : xThose M n x < 2 ^ n := nSet_lt _ n
  exact ⟨h1, Nat.lt_of_lt_of_le h1 (Nat.pow_le_pow_right (by decide) hn : 2 ^ n ≤ 2 ^ 6), popnw hn h1⟩
theorem tn_int {x : Int32} (h : 0 ≤ x.toInt) : (tn x : Int) = x.toInt := Int.toNat_of_nonneg h
theorem xTold_wd {nw : Nat} {L : Nat → Int64} {a kn : Nat} (hw : nw ≤ 6) (h : uAll (xTold nw L a) true kn = true) : ∀ k, k < kn → tn (L (a + 2 * k)).toInt32 < 6 ∧ (L (a + 2 * k)).toInt32 = nI (tn (L (a + 2 * k)).toInt32) := by
  intro k hk
  obtain ⟨h1, h2, _⟩ := of_decide_eq_true (uAll_t h k hk)
  have h3 : ((nI nw).toInt64).toInt = nw := by rw [u_w, nI_toInt (by omega)]
  rw [Int64.lt_iff_toInt_lt] at h1
  rw [Int64.le_iff_toInt_le, h3] at h2
  have h0 : (0 : Int64).toInt = 0 := rfl
  exact u_l2i ⟨by omega, by omega⟩ (by omega)
