/-! TONGUES: what both have read -/
theorem tSkF_congr {L L' : Nat → Int32} {n : Nat} (h : ∀ i, i < n → L i = L' i) : ∀ f p, p + f ≤ n → tSkF L n p f = tSkF L' n p f := by
  intro f
  induction f with
  | zero => intro p _; rfl
  | succ f ih =>
    intro p hp
    have e (L : Nat → Int32) : tSkF L n p (f + 1) = if L p = 32 then tSkF L n (p + 1) f else p := rfl
    rw [e, e, h p (by omega), ih (p + 1) (by omega)]
theorem tSk_congr {L L' : Nat → Int32} {n p : Nat} (h : ∀ i, i < n → L i = L' i) : tSk L n p = tSk L' n p := by
  unfold tSk
  by_cases c : p ≤ n
  · exact tSkF_congr h (n - p) p (by omega)
  · rw [show n - p = 0 by omega]; rfl
theorem tN_congr {L L' : Nat → Int32} {n : Nat} (h : ∀ i, i < n → L i = L' i) : ∀ m, tN L n m = tN L' n m := by
  intro m
  induction m with
  | zero => rfl
  | succ m ih =>
    have e (L : Nat → Int32) : tN L n (m + 1) = tSk L n (tN L n m) + 1 := rfl
    rw [e, e, ih, tSk_congr h]
theorem tQ_congr {L L' : Nat → Int32} {n : Nat} (h : ∀ i, i < n → L i = L' i) : tQ L n = tQ L' n := by
  funext m
  unfold tQ
  rw [tN_congr h, tSk_congr h]
theorem tS_congr {L L' : Nat → Int32} {n : Nat} (h : ∀ i, i < n → L i = L' i) : tS L n = tS L' n := by
  funext m
  unfold tS tAt
  rw [tN_congr h, tSk_congr h]
  by_cases c : tSk L' n (tN L' n m) < n
  · rw [if_pos c, if_pos c, h _ c]
  · rw [if_neg c, if_neg c]
theorem fRun_all {σ : Nat → Int32} {m : Nat} : ∀ f j, fRun σ m j f = j + f → ∀ i, i < f → 0 ≤ tIx (gK (j + i)) (σ (m + (j + i))) := by
  intro f
  induction f with
  | zero => intro j _ i hi; exact absurd hi (Nat.not_lt_zero i)
  | succ f ih =>
    intro j h i hi
    by_cases c : 0 ≤ tIx (gK j) (σ (m + j))
    · rw [fRun_g c] at h
      by_cases z : i = 0
      · subst z; exact c
      · have := ih (j + 1) (by omega) (i - 1) (by omega)
        rw [show j + 1 + (i - 1) = j + i by omega] at this
        exact this
    · rw [fRun_b c] at h
      omega
/-- a speaker's letters -/
theorem f_spk {σ : Nat → Int32} {m : Nat} (h : fRun σ m 0 8 = 8) : (∃ k, k ≤ 4 ∧ tIx 3 (σ m) = nI k) ∧ (∃ k, k ≤ 1 ∧ tIx 4 (σ (m + 1)) = nI k) ∧ ∀ j, j < 6 → ∃ a, a ≤ 9 ∧ tIx 0 (σ (m + 2 + j)) = nI a := by
  have key := fRun_all (σ := σ) (m := m) 8 0 h
  have k0 : 0 ≤ tIx 3 (σ m) := key 0 (by decide)
  have k1 : 0 ≤ tIx 4 (σ (m + 1)) := key 1 (by decide)
  obtain ⟨a1, a2⟩ := tIx_s (by decide) k0
  obtain ⟨b1, b2⟩ := tIx_s (by decide) k1
  have a1' : tn (tIx 3 (σ m)) < 5 := a1
  have b1' : tn (tIx 4 (σ (m + 1))) < 2 := b1
  refine ⟨⟨_, by omega, a2⟩, ⟨_, by omega, b2⟩, fun j hj => ?_⟩
  have kj := key (2 + j) (by omega)
  rw [Nat.zero_add, gK2, show m + (2 + j) = m + 2 + j by omega] at kj
  obtain ⟨c1, c2⟩ := tIx_s (by decide) kj
  have c1' : tn (tIx 0 (σ (m + 2 + j))) < 10 := c1
  exact ⟨_, by omega, c2⟩
/-! the reference tells it -/
theorem mCp_at {X : uM} {t : Nat} : ∀ j i, (mCp X t j).1 252 i = if 7 + 10 * t + 4 ≤ i ∧ i < 7 + 10 * t + 4 + j then X.1 254 (8 * t + 2 + (i - (7 + 10 * t + 4))) else X.1 252 i := by
  intro j
  induction j with
  | zero => intro i; rw [if_neg (by omega)]; rfl
  | succ j ih =>
    intro i
    have e : mCp X t (j + 1) = uSet (mCp X t j) 252 (7 + 10 * t + 4 + j) ((mCp X t j).1 254 (8 * t + 2 + j)) := rfl
    rw [e, u_set1, if_pos rfl, mCp_far (by decide)]
    by_cases h : i = 7 + 10 * t + 4 + j
    · rw [if_pos h, if_pos (by omega), show i - (7 + 10 * t + 4) = j by omega]
    · rw [if_neg h, ih]
      by_cases h2 : 7 + 10 * t + 4 ≤ i ∧ i < 7 + 10 * t + 4 + j
      · rw [if_pos h2, if_pos (by omega)]
      · rw [if_neg h2, if_neg (by omega)]
theorem mSpk_J {a : uM} {n : Nat} {x y v : Int32} : (mSpk a n x y v).1 252 (7 + 10 * n) = x ∧ (mSpk a n x y v).1 252 (7 + 10 * n + 1) = y ∧ (mSpk a n x y v).1 252 (7 + 10 * n + 2) = 0 ∧ (mSpk a n x y v).1 252 (7 + 10 * n + 3) = 0 ∧ ∀ j, j ≠ 0 → j < 7 + 10 * n ∨ 7 + 10 * n + 10 ≤ j → (mSpk a n x y v).1 252 j = a.1 252 j := by
  unfold mSpk
  refine ⟨?_, ?_, ?_, ?_, fun j h0 h => ?_⟩
  · rw [u_set_far (by decide), u_set_by (by omega), uFl_at, if_neg (by omega), u_set_by (by omega), u_set_by (by omega), u_set_by (by omega), u_set_at]
  · rw [u_set_far (by decide), u_set_by (by omega), uFl_at, if_neg (by omega), u_set_by (by omega), u_set_by (by omega), u_set_at]
  · rw [u_set_far (by decide), u_set_by (by omega), uFl_at, if_neg (by omega), u_set_by (by omega), u_set_at]
  · rw [u_set_far (by decide), u_set_by (by omega), uFl_at, if_neg (by omega), u_set_at]
  · rw [u_set_far (by decide), u_set_by h0, uFl_at, if_neg (by omega), u_set_by (by omega), u_set_by (by omega), u_set_by (by omega), u_set_by (by omega)]
theorem mTs_at {v : uM} : ∀ t, (∀ i, i < t → ((mTs v t).1 252 (7 + 10 * i) = v.1 254 (8 * i) ∧ (mTs v t).1 252 (7 + 10 * i + 1) = v.1 254 (8 * i + 1) ∧ (mTs v t).1 252 (7 + 10 * i + 2) = 0 ∧ (mTs v t).1 252 (7 + 10 * i + 3) = 0) ∧ ∀ j, j < 6 → (mTs v t).1 252 (7 + 10 * i + 4 + j) = v.1 254 (8 * i + 2 + j)) ∧ ∀ j, j ≠ 0 → j < 7 ∨ 7 + 10 * t ≤ j → (mTs v t).1 252 j = v.1 252 j := by
  intro t
  induction t with
  | zero => exact ⟨fun i hi => absurd hi (Nat.not_lt_zero i), fun _ _ _ => rfl⟩
  | succ t ih =>
    obtain ⟨i1, i2⟩ := ih
    have e : mTs v (t + 1) = mCp (mSpk (mTs v t) t ((mTs v t).1 254 (8 * t)) ((mTs v t).1 254 (8 * t + 1)) 0) t 6 := rfl
    have e254 := mTs_far (v := v) (a := 254) (by decide) (by decide) t
    rw [e254] at e
    obtain ⟨s1, s2, s3, s4, s5⟩ := mSpk_J (a := mTs v t) (n := t) (x := v.1 254 (8 * t)) (y := v.1 254 (8 * t + 1)) (v := 0)
    have e254' : (mSpk (mTs v t) t (v.1 254 (8 * t)) (v.1 254 (8 * t + 1)) 0).1 254 = v.1 254 := (mSpk_far (by decide) (by decide)).trans e254
    rw [e]
    refine ⟨fun i hi => ?_, fun j h0 hj => ?_⟩
    · by_cases z : i = t
      · subst z
        rw [mCp_at, mCp_at, mCp_at, mCp_at, if_neg (by omega), if_neg (by omega), if_neg (by omega), if_neg (by omega)]
        refine ⟨⟨s1, s2, s3, s4⟩, fun j hj => ?_⟩
        rw [mCp_at, if_pos (by omega), e254']
        exact congrArg (v.1 254) (by omega)
      · obtain ⟨⟨k1, k2, k3, k4⟩, k5⟩ := i1 i (by omega)
        rw [mCp_at, mCp_at, mCp_at, mCp_at, if_neg (by omega), if_neg (by omega), if_neg (by omega), if_neg (by omega), s5 _ (by omega) (by omega), s5 _ (by omega) (by omega), s5 _ (by omega) (by omega), s5 _ (by omega) (by omega)]
        refine ⟨⟨k1, k2, k3, k4⟩, fun j hj => ?_⟩
        rw [mCp_at, if_neg (by omega), s5 _ (by omega) (by omega)]
        exact k5 j hj
    · rw [mCp_at, if_neg (by omega), s5 _ h0 (by omega)]
      exact i2 j h0 (by omega)
theorem mTw_at {v : uM} : ∀ w, (∀ i, i < w → (mTw v w).1 252 (67 + 2 * i) = v.1 255 i ∧ (mTw v w).1 252 (67 + 2 * i + 1) = 0) ∧ (∀ j, j ≠ 1 → j < 67 → (mTw v w).1 252 j = v.1 252 j) ∧ (∀ c, c ≠ 251 → c ≠ 252 → (mTw v w).1 c = v.1 c) ∧ (∀ j, j ≠ 8 → (mTw v w).1 251 j = v.1 251 j) ∧ (mTw v w).2 = v.2 := by
  intro w
  induction w with
  | zero => exact ⟨fun i hi => absurd hi (Nat.not_lt_zero i), fun _ _ _ => rfl, fun _ _ _ => rfl, fun _ _ => rfl, rfl⟩
  | succ w ih =>
    obtain ⟨i1, i2, i3, i4, i5⟩ := ih
    have e : mTw v (w + 1) = mWrd (mTw v w) w ((mTw v w).1 255 w) := rfl
    rw [mTw_255] at e
    rw [e]
    unfold mWrd
    refine ⟨fun i hi => ⟨?_, ?_⟩, fun j h1 h2 => ?_, fun c h1 h2 => ?_, fun j hj => ?_, i5⟩
    · rw [u_set_far (by decide), u_set_by (by omega), u_set_by (by omega)]
      by_cases z : i = w
      · subst z; exact u_set_at
      · rw [u_set_by (by omega)]; exact (i1 i (by omega)).1
    · rw [u_set_far (by decide), u_set_by (by omega)]
      by_cases z : i = w
      · subst z; exact u_set_at
      · rw [u_set_by (by omega), u_set_by (by omega)]; exact (i1 i (by omega)).2
    · rw [u_set_far (by decide), u_set_by h1, u_set_by (by omega), u_set_by (by omega)]; exact i2 j h1 h2
    · rw [u_set_far h1, u_set_far h2, u_set_far h2, u_set_far h2]; exact i3 c h1 h2
    · rw [u_set_by hj, u_set_far (by decide), u_set_far (by decide), u_set_far (by decide)]; exact i4 j hj
theorem mTs_251 {v : uM} : ∀ t, (∀ j, j ≠ 8 → (mTs v t).1 251 j = v.1 251 j) ∧ (mTs v t).2 = v.2 := by
  intro t
  induction t with
  | zero => exact ⟨fun _ _ => rfl, rfl⟩
  | succ t ih =>
    have e : mTs v (t + 1) = mCp (mSpk (mTs v t) t ((mTs v t).1 254 (8 * t)) ((mTs v t).1 254 (8 * t + 1)) 0) t 6 := rfl
    have c2 : ∀ (X : uM) j, (mCp X t j).2 = X.2 := by
      intro X j
      induction j with
      | zero => rfl
      | succ j ihj => exact ihj
    rw [e]
    refine ⟨fun j hj => ?_, ?_⟩
    · rw [mCp_far (by decide)]
      unfold mSpk
      rw [u_set_by hj, u_set_far (by decide), uFl_far (by decide), u_set_far (by decide), u_set_far (by decide), u_set_far (by decide), u_set_far (by decide)]
      exact ih.1 j hj
    · rw [c2]
      unfold mSpk
      rw [u_set2, u_set2, uFl_2]
      exact ih.2
