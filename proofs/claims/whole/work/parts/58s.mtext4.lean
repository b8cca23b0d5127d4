/-! a text that is one: what was read is in range; the telling -/
theorem fRun_34 {σ : Nat → Int32} {m : Nat} (h : fRun σ m 0 8 = 8) : 0 ≤ tIx 3 (σ m) ∧ 0 ≤ tIx 4 (σ (m + 1)) := by
  by_cases h3 : 0 ≤ tIx 3 (σ m)
  · refine ⟨h3, ?_⟩
    by_cases h4 : 0 ≤ tIx 4 (σ (m + 1))
    · exact h4
    · have e := (fRun_g (σ := σ) (m := m) (j := 0) (f := 7) h3).trans (fRun_b (j := 1) (f := 6) h4)
      rw [h] at e; exact absurd e (by decide)
  · have e := fRun_b (σ := σ) (m := m) (j := 0) (f := 7) h3
    rw [h] at e; exact absurd e (by decide)
theorem fSps_ok {σ : Nat → Int32} : ∀ f m i, (fSps σ m i f).1 = true → i < (fSps σ m i f).2.2 ∧ (fSps σ m i f).2.2 ≤ i + f ∧ ∀ t, i + t < (fSps σ m i f).2.2 → fRun σ (m + 9 * t) 0 8 = 8 := by
  intro f
  induction f with
  | zero => intro m i h; exact absurd h Bool.false_ne_true
  | succ f ih =>
    intro m i h
    by_cases h8 : fRun σ m 0 8 = 8
    · rw [fSps_g h8] at h ⊢
      by_cases hc : 0 ≤ tIx 2 (σ (m + 8))
      · by_cases hf : f = 0
        · subst hf
          rw [(fAft_0 σ (m + 8) (i + 1)).2 hc] at h; exact absurd h Bool.false_ne_true
        · rw [fAft_c hc hf] at h ⊢
          obtain ⟨a, b, c⟩ := ih _ _ h
          refine ⟨by omega, by omega, fun t ht => ?_⟩
          rcases Nat.eq_zero_or_pos t with z | z
          · subst z; exact h8
          · have := c (t - 1) (by omega)
            rwa [show m + 8 + 1 + 9 * (t - 1) = m + 9 * t by omega] at this
      · rw [fAft_n hc]
        refine ⟨Nat.lt_succ_self i, by show i + 1 ≤ _; omega, fun t ht => ?_⟩
        have ht' : i + t < i + 1 := ht
        rw [show t = 0 by omega]; exact h8
    · rw [fSps_b h8] at h; exact absurd h Bool.false_ne_true
theorem fWd_inv (σ : Nat → Int32) : ∀ f x lo z, z < 2 ^ lo → lo ≤ 6 → (fWd σ x lo z f).2 < 64 ∧ z ≤ (fWd σ x lo z f).2 ∧ ((fWd σ x lo z f).1 ≠ x → z < (fWd σ x lo z f).2) := by
  intro f
  induction f with
  | zero => intro x lo z hz hl; exact ⟨Nat.lt_of_lt_of_le hz (Nat.pow_le_pow_right (by decide) hl : 2 ^ lo ≤ 2 ^ 6), Nat.le_refl _, fun q => absurd rfl q⟩
  | succ f ih =>
    intro x lo z hz hl
    by_cases hg : nI lo ≤ tIx 5 (σ x)
    · rw [fWd_g hg]
      obtain ⟨h1, h2⟩ := tIx_s (k := 5) (by decide) (Int32.le_trans (t_ge1 (lo := lo) (by omega)) hg)
      have h1' : tn (tIx 5 (σ x)) < 6 := h1
      have h3 : lo ≤ tn (tIx 5 (σ x)) := (nI_le_iff (by omega) (by omega)).mp (by rw [← h2]; exact hg)
      obtain ⟨a, b, -⟩ := ih (x + 1) _ _ (t_rise h3 hz h1').2 (by omega)
      have := Nat.two_pow_pos (tn (tIx 5 (σ x)))
      exact ⟨a, by omega, fun _ => by omega⟩
    · rw [fWd_b hg]
      exact ⟨Nat.lt_of_lt_of_le hz (Nat.pow_le_pow_right (by decide) hl : 2 ^ lo ≤ 2 ^ 6), Nat.le_refl _, fun q => absurd rfl q⟩
theorem fW_ok {σ : Nat → Int32} {m : Nat} (h : (fW σ m).1 ≠ m) : 0 < (fW σ m).2 ∧ (fW σ m).2 < 64 := by
  obtain ⟨a, -, b⟩ := fWd_inv σ 6 m 0 0 (by decide) (by decide)
  exact ⟨b h, a⟩
theorem tWs_s {σ : Nat → Int32} {m : Nat} : ∀ t, tWs σ m (t + 1) = tWs σ ((fW σ m).1 + 1) t
  | 0 => rfl
  | t + 1 => by
    show (fW σ (tWs σ m (t + 1))).1 + 1 = (fW σ (tWs σ ((fW σ m).1 + 1) t)).1 + 1
    rw [tWs_s t]
theorem fWds_ok {σ : Nat → Int32} : ∀ f m i, (fWds σ m i f).1 = true → i < (fWds σ m i f).2.2 ∧ (fWds σ m i f).2.2 ≤ i + f ∧ ∀ t, i + t < (fWds σ m i f).2.2 → (fW σ (tWs σ m t)).1 ≠ tWs σ m t := by
  intro f
  induction f with
  | zero => intro m i h; exact absurd h Bool.false_ne_true
  | succ f ih =>
    intro m i h
    by_cases h8 : (fW σ m).1 ≠ m
    · rw [fWds_g h8] at h ⊢
      by_cases hc : 0 ≤ tIx 2 (σ (fW σ m).1)
      · by_cases hf : f = 0
        · subst hf
          have e : fAfW σ (fW σ m).1 (i + 1) 0 = (false, (fW σ m).1, i + 1) := by unfold fAfW; rw [if_pos hc, if_pos rfl]
          rw [e] at h; exact absurd h Bool.false_ne_true
        · rw [fAfW_c hc hf] at h ⊢
          obtain ⟨a, b, c⟩ := ih _ _ h
          refine ⟨by omega, by omega, fun t ht => ?_⟩
          rcases Nat.eq_zero_or_pos t with z | z
          · subst z; exact h8
          · have := c (t - 1) (by omega)
            rwa [← tWs_s, show t - 1 + 1 = t by omega] at this
      · rw [fAfW_n hc]
        refine ⟨Nat.lt_succ_self i, by show i + 1 ≤ _; omega, fun t ht => ?_⟩
        have ht' : i + t < i + 1 := ht
        rw [show t = 0 by omega]; exact h8
    · rw [fWds_b h8] at h; exact absurd h Bool.false_ne_true
def mCp (X : uM) (t : Nat) : Nat → uM
  | 0 => X
  | j + 1 => uSet (mCp X t j) 252 (7 + 10 * t + 4 + j) ((mCp X t j).1 254 (8 * t + 2 + j))
def mTs (v : uM) : Nat → uM
  | 0 => v
  | t + 1 => mCp (mSpk (mTs v t) t ((mTs v t).1 254 (8 * t)) ((mTs v t).1 254 (8 * t + 1)) 0) t 6
def mTw (v : uM) : Nat → uM
  | 0 => v
  | w + 1 => mWrd (mTw v w) w ((mTw v w).1 255 w)
theorem uFill_lo {M : uM} {k b j : Nat} {v : Int32} (h : j < b) : ∀ n, (uFill M k b v n).1 k j = M.1 k j
  | 0 => rfl
  | n + 1 => by
    show (uSet (uFill M k b v n) k (b + n) v).1 k j = _
    rw [u_set1, if_pos rfl, if_neg (by omega)]; exact uFill_lo h n
theorem uFill_far {M : uM} {k b a : Nat} {v : Int32} (h : a ≠ k) : ∀ n, (uFill M k b v n).1 a = M.1 a
  | 0 => rfl
  | n + 1 => by
    show (uSet (uFill M k b v n) k (b + n) v).1 a = _
    rw [u_set_far h]; exact uFill_far h n
theorem mSpk_far {M : uM} {n a : Nat} {k b v : Int32} (h1 : a ≠ 252) (h2 : a ≠ 251) : (mSpk M n k b v).1 a = M.1 a := by
  unfold mSpk
  rw [u_set_far h2, u_set_far h1, uFill_far h1, u_set_far h1, u_set_far h1, u_set_far h1, u_set_far h1]
theorem mSpk_lo {M : uM} {n j : Nat} {k b v : Int32} (h : j < 7) : (mSpk M n k b v).1 252 j = if j = 0 then M.1 252 0 + 1 else M.1 252 j := by
  have key : ∀ i, i < 7 → (uFill (uSet (uSet (uSet (uSet M 252 (7 + 10 * n) k) 252 (7 + 10 * n + 1) b) 252 (7 + 10 * n + 2) 0) 252 (7 + 10 * n + 3) 0) 252 (7 + 10 * n + 4) v 6).1 252 i = M.1 252 i := by
    intro i hi
    rw [uFill_lo (by omega), u_set1, if_pos rfl, if_neg (by omega), u_set1, if_pos rfl, if_neg (by omega), u_set1, if_pos rfl, if_neg (by omega), u_set1, if_pos rfl, if_neg (by omega)]
  unfold mSpk
  rw [u_set_far (by decide), u_set1, if_pos rfl, key 0 (by decide), key j h]
theorem mCp_far {X : uM} {t a : Nat} (h : a ≠ 252) : ∀ j, (mCp X t j).1 a = X.1 a
  | 0 => rfl
  | j + 1 => by
    show (uSet (mCp X t j) 252 _ _).1 a = _
    rw [u_set_far h]; exact mCp_far h j
theorem mCp_lo {X : uM} {t i : Nat} (h : i < 7) : ∀ j, (mCp X t j).1 252 i = X.1 252 i
  | 0 => rfl
  | j + 1 => by
    show (uSet (mCp X t j) 252 (7 + 10 * t + 4 + j) _).1 252 i = _
    rw [u_set1, if_pos rfl, if_neg (by omega)]; exact mCp_lo h j
theorem mTs_far {v : uM} {a : Nat} (h1 : a ≠ 252) (h2 : a ≠ 251) : ∀ t, (mTs v t).1 a = v.1 a
  | 0 => rfl
  | t + 1 => by
    show (mCp (mSpk (mTs v t) t _ _ 0) t 6).1 a = _
    rw [mCp_far h1, mSpk_far h1 h2]; exact mTs_far h1 h2 t
theorem mTs_1 {v : uM} : ∀ t, (mTs v t).1 252 1 = v.1 252 1
  | 0 => rfl
  | t + 1 => by
    show (mCp (mSpk (mTs v t) t _ _ 0) t 6).1 252 1 = _
    rw [mCp_lo (by decide), mSpk_lo (by decide), if_neg (by decide)]; exact mTs_1 t
theorem mTs_0 {v : uM} (h : v.1 252 0 = nI 0) : ∀ t, (mTs v t).1 252 0 = nI t
  | 0 => h
  | t + 1 => by
    show (mCp (mSpk (mTs v t) t _ _ 0) t 6).1 252 0 = _
    rw [mCp_lo (by decide), mSpk_lo (by decide), if_pos rfl, mTs_0 h t]; exact nI_add t 1
theorem mTw_255 {v : uM} : ∀ w, (mTw v w).1 255 = v.1 255
  | 0 => rfl
  | w + 1 => by
    show (mWrd (mTw v w) w _).1 255 = _
    unfold mWrd
    rw [u_set_far (by decide), u_set_far (by decide), u_set_far (by decide), u_set_far (by decide)]; exact mTw_255 w
theorem mTw_1 {v : uM} (h : v.1 252 1 = nI 0) : ∀ w, (mTw v w).1 252 1 = nI w
  | 0 => h
  | w + 1 => by
    show (mWrd (mTw v w) w _).1 252 1 = _
    unfold mWrd
    rw [u_set_far (by decide), u_set1, if_pos rfl, if_pos rfl]
theorem tIx_hi {k : Nat} {c : Int32} (hk : k < 6) (h : 0 ≤ tIx k c) : 0 ≤ (tIx k c).toInt ∧ (tIx k c).toInt < tLen.getD k 0 := by
  obtain ⟨a, b⟩ := tIx_s hk h
  have h10 := tLen_le k hk
  rw [b, nI_toInt (by omega)]; omega
/-- the model's memory behind a text that was one: v as read, ear e -/
def mTell (v : uM) (nS nW : Nat) (e : Int32) : uM :=
  uSet (uSet (uSet (uSet (mTw (mTs (uSet (uSet v 252 0 0) 252 1 0) nS) nW) 252 2 e) 252 4 0) 252 6 0) 251 8 0
