/-! PROOF: both find the fewest words -/
theorem mSk_congr {M u : uM} (h : u.1 252 = M.1 252) : mSk u = mSk M := by
  funext p wn tg s
  unfold mSk
  rw [h]
theorem mPass_congr {M u : uM} (h : u.1 252 = M.1 252) : mPass u = mPass M := by
  funext p w hr wn tg
  unfold mPass
  rw [h, mSk_congr h]
theorem mPassIn_congr {M u : uM} (h : u.1 252 = M.1 252) : mPassIn u = mPassIn M := by
  funext p w hr
  unfold mPassIn
  rw [h, mPass_congr h]
theorem uAll_b {g : Nat → Bool} {b : Bool} : ∀ n, uAll g b n = (b && uAll g true n) := by
  intro n
  induction n with
  | zero => show b = (b && true); rw [Bool.and_true]
  | succ n ih =>
    show (uAll g b n && g n) = (b && (uAll g true n && g n))
    rw [ih, Bool.and_assoc]
theorem uAll_congr {g g' : Nat → Bool} {b : Bool} : ∀ n, (∀ i, i < n → g i = g' i) → uAll g b n = uAll g' b n := by
  intro n
  induction n with
  | zero => intro _; rfl
  | succ n ih =>
    intro h
    show (uAll g b n && g n) = (uAll g' b n && g' n)
    rw [ih (fun i hi => h i (by omega)), h n (by omega)]
theorem xFew_one {g : Nat → Bool} {m : Nat} {r r' : Int32} (h : xFew g m r) (h' : xFew g m r') : r = r' := by
  rcases h with ⟨h1, h2⟩ | ⟨s, h1, h2, h3, h4⟩ <;> rcases h' with ⟨k1, k2⟩ | ⟨t, k1, k2, k3, k4⟩
  · rw [h1, k1]
  · rw [h2 t k1] at k3; exact absurd k3 (by decide)
  · rw [k2 s h1] at h3; exact absurd h3 (by decide)
  · rw [h2, k2]
    have a := h4 t k1 k3
    have b := k4 s h1 h3
    rw [show s = t by omega]
theorem p_few (M : uM) (n nw : Nat) (x : Int32) : ∀ k, k ≤ 64 → (mProof M n nw x k = 64 ∧ ∀ s, s < k → uAll (mPOk M nw x s) true n = false) ∨ (mProof M n nw x k < k ∧ uAll (mPOk M nw x (mProof M n nw x k)) true n = true ∧ ∀ s, s < k → uAll (mPOk M nw x s) true n = true → pop (mProof M n nw x k) < pop s ∨ (pop (mProof M n nw x k) = pop s ∧ mProof M n nw x k ≤ s)) := by
  intro k
  induction k with
  | zero => intro _; exact Or.inl ⟨rfl, fun s hs => absurd hs (Nat.not_lt_zero s)⟩
  | succ k ih =>
    intro hk
    have e : mProof M n nw x (k + 1) = if uAll (mPOk M nw x k) (decide (mProof M n nw x k = 64 ∨ ¬ pop (mProof M n nw x k) ≤ pop k)) n = true then k else mProof M n nw x k := rfl
    rw [uAll_b] at e
    have ih := ih (by omega)
    rw [e]
    generalize mProof M n nw x k = b at ih ⊢
    by_cases c : uAll (mPOk M nw x k) true n = true
    · by_cases d : b = 64 ∨ ¬ pop b ≤ pop k
      · rw [if_pos (by rw [decide_eq_true d, c]; rfl)]
        refine Or.inr ⟨by omega, c, fun s hs hg => ?_⟩
        rcases Nat.lt_or_ge s k with q | q
        · rcases ih with ⟨i1, i2⟩ | ⟨i1, i2, i3⟩
          · rw [i2 s q] at hg; exact absurd hg (by decide)
          · have := i3 s q hg
            omega
        · have : s = k := by omega
          subst this; exact Or.inr ⟨rfl, Nat.le_refl _⟩
      · rw [if_neg (by rw [decide_eq_false d, Bool.false_and]; decide)]
        rcases ih with ⟨i1, i2⟩ | ⟨i1, i2, i3⟩
        · exact absurd (Or.inl i1) d
        · refine Or.inr ⟨by omega, i2, fun s hs hg => ?_⟩
          rcases Nat.lt_or_ge s k with q | q
          · exact i3 s q hg
          · have : s = k := by omega
            subst this
            have : pop b ≤ pop s := Classical.not_not.mp (fun z => d (Or.inr z))
            omega
    · rw [if_neg (by rw [Bool.eq_false_iff.mpr c, Bool.and_false]; decide)]
      rcases ih with ⟨i1, i2⟩ | ⟨i1, i2, i3⟩
      · refine Or.inl ⟨i1, fun s hs => ?_⟩
        rcases Nat.lt_or_ge s k with q | q
        · exact i2 s q
        · have : s = k := by omega
          subst this; exact Bool.eq_false_iff.mpr c
      · refine Or.inr ⟨by omega, i2, fun s hs hg => ?_⟩
        rcases Nat.lt_or_ge s k with q | q
        · exact i3 s q hg
        · have : s = k := by omega
          subst this; exact absurd hg c
theorem p_few2 (M : uM) (n nw : Nat) (x : Int32) {k : Nat} (hk : k ≤ 64) : xFew (fun s => uAll (mPOk M nw x s) true n) k (pv (mProof M n nw x k)) := by
  rcases p_few M n nw x k hk with ⟨h1, h2⟩ | ⟨h1, h2, h3⟩
  · exact Or.inl ⟨by rw [h1]; rfl, h2⟩
  · refine Or.inr ⟨mProof M n nw x k, h1, ?_, h2, h3⟩
    unfold pv
    rw [if_neg (by omega)]
theorem q_proof {M u : uM} {n nw : Nat} (R : rFord M.1 1 (M.1 252) n nw) (h252 : u.1 252 = M.1 252) {x : Int32} (hx : 0 ≤ x.toInt ∧ x.toInt ≤ 1000000) {rr : Nat → Int32} {r : Int32} (hp : xPasses M n nw rr) (hf : xFew (fun s => uAll (xPOk M rr nw x s) true n) (2 ^ nw) r) : r = pv (mProof u n nw x (2 ^ nw)) := by
  have h64 : 2 ^ nw ≤ 2 ^ 6 := Nat.pow_le_pow_right (by decide) R.1.2.1
  obtain ⟨t1, t2⟩ := u_tn (x := x) (n := 1000001) ⟨hx.1, by omega⟩ (by decide)
  have key : (fun s => uAll (xPOk M rr nw x s) true n) = fun s => uAll (mPOk u nw x s) true n := by
    funext set
    refine uAll_congr n (fun p hpn => ?_)
    have e1 : uPA (fun w => rr (p * 6 + w)) (nI set) nw = uPA (fun w => mPassIn M p w (M.1 252 4)) (nI set) nw := by
      refine uPA_congr nw (fun w hw => ?_)
      rw [hp p w hpn hw, r_passIn R hpn hw, r_hour R]
    obtain ⟨m, hm, em⟩ := b_uPA (f := fun w => mPassIn M p w (M.1 252 4)) (s := nI set) nw (fun w hw => b_now R hpn hw)
    have e2 : mPA u nw p set = nI m := by
      unfold mPA
      rw [mPassIn_congr h252, h252, em, lN_i]
    unfold xPOk mPOk
    rw [e1, em, e2, h252, show M.1 3 p = M.1 252 (7 + 10 * p + 1) from (R.2.2.1 p hpn).2.1.1, t2, show (1000000 : Int32) - nI (tn x) = nI (1000000 - tn x) from pk_sub (a := 1000000) (by omega), nI_l (by omega), nI_l (by omega)]
    have d1 : decide (lN m < lN (tn x)) = decide (nI m < nI (tn x)) := decide_eq_decide.mpr ((pk_lLT (by omega) (by omega)).trans (nI_ltI (by omega) (by omega)).symm)
    have d2 : decide (lN (1000000 - tn x) < lN m) = decide (nI (1000000 - tn x) < nI m) := decide_eq_decide.mpr ((pk_lLT (by omega) (by omega)).trans (nI_ltI (by omega) (by omega)).symm)
    rw [d1, d2]
  rw [key] at hf
  exact xFew_one hf (p_few2 u n nw x h64)
/-- what is only reckoned may change -/
theorem s_scr {M u : uM} (A : rAll M) (h1 : ∀ k, k ≠ 236 → k ≠ 237 → k ≠ 238 → k ≠ 257 → u.1 k = M.1 k) (h2 : ∀ k, k ≠ 239 → k ≠ 262 → u.2.1 k = M.2.1 k) (h22 : u.2.2 = M.2.2) : rAll u := by
  have e (k : Nat) (ha : k ≠ 236) (hb : k ≠ 237) (hc : k ≠ 238) (hd : k ≠ 257) : u.1 k = M.1 k := h1 k ha hb hc hd
  have e251 := e 251 (by decide) (by decide) (by decide) (by decide)
  obtain ⟨ty, b1, b2, b3, b4⟩ := A.2.2.1
  refine rAll_side A h22 (fun k h => e k (by omega) (by omega) (by omega) (by omega)) (e 252 (by decide) (by decide) (by decide) (by decide)) (e 256 (by decide) (by decide) (by decide) (by decide)) (e 258 (by decide) (by decide) (by decide) (by decide)) ⟨by rw [e251], by rw [e251], by rw [e251]⟩ ⟨ty, b1, ?_, ?_, fun i hi => ?_⟩ (fun s hs => ?_)
  · rw [e 240 (by decide) (by decide) (by decide) (by decide)]; exact b2
  · rw [e251]; exact b3
  · rw [e 241 (by decide) (by decide) (by decide) (by decide), e 253 (by decide) (by decide) (by decide) (by decide)]; exact b4 i hi
  · have R := A.2.2.2.1 s hs
    unfold rSheet
    rw [e (243 + 2 * s) (by omega) (by omega) (by omega) (by omega), e 259 (by decide) (by decide) (by decide) (by decide), e 260 (by decide) (by decide) (by decide) (by decide), h2 (244 + 2 * s) (by omega) (by omega), h2 261 (by decide) (by decide)]
    exact R
