/-! film: passes ahead into a sheet, both sides -/
theorem xPassIn_1 {M u : uM} (h : u.1 = M.1) (p w : Nat) (x : Int32) : xPassIn u p w x = xPassIn M p w x := by
  obtain ⟨a, b⟩ := M
  obtain ⟨a', b'⟩ := u
  have h : a' = a := h
  subst h
  rfl
theorem mPassIn_1 {M u : uM} (h : u.1 = M.1) (p w : Nat) (x : Int32) : mPassIn u p w x = mPassIn M p w x := by
  obtain ⟨a, b⟩ := M
  obtain ⟨a', b'⟩ := u
  have h : a' = a := h
  subst h
  rfl
theorem xFilm_at {M : uM} {p w q b : Nat} (a : Nat) : ∀ k, (xFilm M p w q b k).2.1 (q + 1) a = if b ≤ a ∧ a < b + k then uCut (M.1 q 1) (xPassIn M p w (M.1 7 4 + nI (a - b))).toInt64 else M.2.1 (q + 1) a
  | 0 => (if_neg (by omega)).symm
  | k + 1 => by
    show (uSetL (xFilm M p w q b k) (q + 1) (b + k) (uCut ((xFilm M p w q b k).1 q 1) (xPassIn (xFilm M p w q b k) p w ((xFilm M p w q b k).1 7 4 + nI k)).toInt64)).2.1 (q + 1) a = _
    rw [u_setL1, if_pos rfl, vp_updL_at, xFilm_at a k, xPassIn_1 (xFilm_1 M p w q b k), xFilm_1]
    by_cases h : a = b + k
    · rw [if_pos h, if_pos (by omega), show a - b = k by omega]
    · rw [if_neg h]
      by_cases h2 : b ≤ a ∧ a < b + k
      · rw [if_pos h2, if_pos (by omega)]
      · rw [if_neg h2, if_neg (by omega)]
theorem xFilm_far {M : uM} {p w q b a : Nat} (h : a ≠ q + 1) : ∀ k, (xFilm M p w q b k).2.1 a = M.2.1 a ∧ (xFilm M p w q b k).2.2 = M.2.2
  | 0 => ⟨rfl, rfl⟩
  | k + 1 => by
    refine ⟨?_, (xFilm_far h k).2⟩
    show (uSetL (xFilm M p w q b k) (q + 1) (b + k) _).2.1 a = _
    rw [u_setL1, if_neg h]; exact (xFilm_far h k).1
theorem mFilm_at {M : uM} {p w b : Nat} {lane : Int32} (a : Nat) : ∀ k, (mFilm M p w b lane k).2.1 261 a = if b ≤ a ∧ a < b + k then uCut lane (mPassIn M p w (M.1 252 4 + nI (a - b))).toInt64 else M.2.1 261 a
  | 0 => (if_neg (by omega)).symm
  | k + 1 => by
    show (uSetL (mFilm M p w b lane k) 261 (b + k) (uCut lane (mPassIn (mFilm M p w b lane k) p w ((mFilm M p w b lane k).1 252 4 + nI k)).toInt64)).2.1 261 a = _
    rw [u_setL1, if_pos rfl, vp_updL_at, mFilm_at a k, mPassIn_1 (mFilm_1 M p w b lane k), mFilm_1]
    by_cases h : a = b + k
    · rw [if_pos h, if_pos (by omega), show a - b = k by omega]
    · rw [if_neg h]
      by_cases h2 : b ≤ a ∧ a < b + k
      · rw [if_pos h2, if_pos (by omega)]
      · rw [if_neg h2, if_neg (by omega)]
theorem mFilm_far {M : uM} {p w b a : Nat} {lane : Int32} (h : a ≠ 261) : ∀ k, (mFilm M p w b lane k).2.1 a = M.2.1 a ∧ (mFilm M p w b lane k).2.2 = M.2.2
  | 0 => ⟨rfl, rfl⟩
  | k + 1 => by
    refine ⟨?_, (mFilm_far h k).2⟩
    show (uSetL (mFilm M p w b lane k) 261 (b + k) _).2.1 a = _
    rw [u_setL1, if_neg h]; exact (mFilm_far h k).1
theorem s_film {M : uM} (A : rAll M) {n nw p w s b m : Nat} (F : rFord M.1 1 (M.1 252) n nw) (hp : p < n) (hw : w < nw) (hs : s < 4) (hb : b + m ≤ 24) {lane : Int32} (hl : M.1 (243 + 2 * s) 1 = lane) :
    rAll (mFilm (xFilm M p w (243 + 2 * s) b m) p w (24 * s + b) lane m) := by
  obtain ⟨ty, T⟩ := A.2.2.1
  have e1 : (mFilm (xFilm M p w (243 + 2 * s) b m) p w (24 * s + b) lane m).1 = M.1 := (mFilm_1 _ _ _ _ _ m).trans (xFilm_1 _ _ _ _ _ m)
  have e2 : (mFilm (xFilm M p w (243 + 2 * s) b m) p w (24 * s + b) lane m).2.2 = M.2.2 := (mFilm_far (a := 0) (by decide) m).2.trans (xFilm_far (a := 0) (by omega) m).2
  refine rAll_side A e2 (fun k h => by rw [e1]) (by rw [e1]) (by rw [e1]) (by rw [e1]) (by rw [e1]; exact ⟨rfl, rfl, rfl⟩) ⟨ty, rTape_congr (by rw [e1]) (by rw [e1]) (by rw [e1]) (by rw [e1]) T⟩ (fun t ht => ?_)
  obtain ⟨r1, r2, r3, r4⟩ := A.2.2.2.1 t ht
  unfold rSheet
  rw [e1]
  refine ⟨r1, r2, r3, fun a ha => ?_⟩
  rw [(mFilm_far (by omega) m).1, mFilm_at, xFilm_1, mPassIn_1 (xFilm_1 M p w (243 + 2 * s) b m), (xFilm_far (a := 261) (by omega) m).1]
  by_cases h : t = s
  · subst h
    rw [show 244 + 2 * t = 243 + 2 * t + 1 by omega, xFilm_at]
    by_cases h2 : b ≤ a ∧ a < b + m
    · rw [if_pos h2, if_pos (by omega), r_passIn F hp hw, r_hour F, hl, show 24 * t + a - (24 * t + b) = a - b by omega]
    · rw [if_neg h2, if_neg (by omega), show 243 + 2 * t + 1 = 244 + 2 * t by omega]
      exact r4 a ha
  · rw [(xFilm_far (by omega) m).1, if_neg (by omega)]
    exact r4 a ha
