/-! WHO IT WAS: both weigh alike -/
theorem b_eq {x : Int32} (h : bM x) : ∃ m, m ≤ 1000000 ∧ x = nI m ∧ x.toInt64 = lN m := by
  obtain ⟨m, h1, h2⟩ := h
  exact ⟨m, h1, h2, by rw [h2]; exact nI_l (by omega)⟩
theorem w_sum {LL : Nat → Int64} {f : Nat → Int32} : ∀ n, (∀ p, p < n → LL p = (f p).toInt64) → (uWho f n).1 = xSumL LL n := by
  intro n
  induction n with
  | zero => intro _; rfl
  | succ n ih =>
    intro h
    have e : uWho f (n + 1) = if f n ≤ (uWho f n).2.2 then ((uWho f n).1 + (f n).toInt64, (uWho f n).2) else ((uWho f n).1 + (f n).toInt64, nI n, f n) := rfl
    have e2 : xSumL LL (n + 1) = xSumL LL n + LL n := rfl
    rw [e, e2, h n (by omega), ← ih (fun p hp => h p (by omega))]
    by_cases c : f n ≤ (uWho f n).2.2
    · rw [if_pos c]
    · rw [if_neg c]
theorem w_best {LL : Nat → Int64} {f : Nat → Int32} : ∀ n, (∀ p, p < n + 1 → LL p = (f p).toInt64 ∧ bM (f p)) → (uWho f (n + 1)).2 = (nI (xBst LL (n + 1)), f (xBst LL (n + 1))) ∧ xBst LL (n + 1) ≤ n := by
  intro n
  induction n with
  | zero =>
    intro h
    have e : uWho f 1 = if f 0 ≤ -1 then (0 + (f 0).toInt64, ((-4 : Int32), (-1 : Int32))) else (0 + (f 0).toInt64, nI 0, f 0) := rfl
    obtain ⟨m, h1, h2⟩ := (h 0 (by omega)).2
    rw [e, if_neg (by
      rw [h2, Int32.le_iff_toInt_le, nI_toInt (by omega)]
      have : (-1 : Int32).toInt = -1 := rfl
      omega)]
    exact ⟨rfl, Nat.le_refl _⟩
  | succ n ih =>
    intro h
    obtain ⟨i1, i2⟩ := ih (fun p hp => h p (by omega))
    have e : uWho f (n + 1 + 1) = if f (n + 1) ≤ (uWho f (n + 1)).2.2 then ((uWho f (n + 1)).1 + (f (n + 1)).toInt64, (uWho f (n + 1)).2) else ((uWho f (n + 1)).1 + (f (n + 1)).toInt64, nI (n + 1), f (n + 1)) := rfl
    have e2 : xBst LL (n + 1 + 1) = if n + 1 = 0 then 0 else if LL (n + 1) ≤ LL (xBst LL (n + 1)) then xBst LL (n + 1) else n + 1 := rfl
    rw [if_neg (show ¬ n + 1 = 0 by omega)] at e2
    rw [e, e2, i1]
    generalize xBst LL (n + 1) = b at i2 ⊢
    have hi : LL (n + 1) ≤ LL b ↔ f (n + 1) ≤ f b := by
      rw [(h (n + 1) (by omega)).1, (h b (by omega)).1, Int64.le_iff_toInt_le, Int32.le_iff_toInt_le, u_w, u_w]
    by_cases c : f (n + 1) ≤ f b
    · rw [if_pos c, if_pos (hi.mpr c)]
      exact ⟨rfl, by omega⟩
    · rw [if_neg c, if_neg (fun z => c (hi.mp z))]
      exact ⟨rfl, Nat.le_refl _⟩
theorem w_told {M : uM} {s nw i : Nat} (hnw : nw ≤ 6) (S : rSheet M s) {k : Nat} (hk : i + 2 * k + 1 < 24) : xTold nw (M.2.1 (243 + 2 * s + 1)) i k = mTold M nw (24 * s + i) k := by
  have e1 : M.2.1 (243 + 2 * s + 1) (i + 2 * k) = M.2.1 261 (24 * s + i + 2 * k) := by
    rw [show 243 + 2 * s + 1 = 244 + 2 * s by omega, S.2.2.2 _ (by omega), show 24 * s + (i + 2 * k) = 24 * s + i + 2 * k by omega]
  have e2 : M.2.1 (243 + 2 * s + 1) (i + 2 * k + 1) = M.2.1 261 (24 * s + i + 2 * k + 1) := by
    rw [show 243 + 2 * s + 1 = 244 + 2 * s by omega, S.2.2.2 _ (by omega), show 24 * s + (i + 2 * k + 1) = 24 * s + i + 2 * k + 1 by omega]
  unfold xTold mTold
  rw [e1, e2]
  apply decide_eq_decide.mpr
  have h3 : ((nI nw).toInt64).toInt = nw := by rw [u_w, nI_toInt (by omega)]
  have h0 : (0 : Int64).toInt = 0 := rfl
  have h1 : (1 : Int64).toInt = 1 := rfl
  rw [Int64.lt_iff_toInt_lt, Int64.le_iff_toInt_le, Int64.lt_iff_toInt_lt, Int64.le_iff_toInt_le, h3, h0, h1]
  omega
theorem mLike_congr {M u : uM} (h252 : u.1 252 = M.1 252) (h261 : u.2.1 261 = M.2.1 261) : mLike u = mLike M := by
  funext a k p
  unfold mLike
  have : mLk u p a = mLk M p a := by
    funext j
    unfold mLk
    rw [h261, h252, mPassIn_congr h252]
  rw [this]
theorem mWho_congr {M u : uM} (h252 : u.1 252 = M.1 252) (h259 : u.1 259 = M.1 259) (h260 : u.1 260 = M.1 260) (h261 : u.2.1 261 = M.2.1 261) : mWho u = mWho M := by
  funext n nw x1 x2 x3 x4 x5
  have e1 : mWhyS u = mWhyS M := by
    funext s lane i n
    unfold mWhyS
    rw [h259, h260]
  have e2 : mTold u = mTold M := by
    funext nw a k
    unfold mTold
    rw [h261]
  unfold mWho
  rw [mLike_congr h252 h261, e1, e2]
