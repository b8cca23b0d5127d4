/-! cross, heardWrong: both answers are one -/
section QU2
variable {M : uM} {n nw : Nat}
theorem q_cross (R : rFord M.1 1 (M.1 252) n nw) {h0 : Nat} (hh : M.1 7 4 = nI h0) (x1 x2 x3 : Int32) :
    (if (0 ≤ x1.toInt ∧ x1.toInt < n) ∧ (0 ≤ x2.toInt ∧ x2.toInt < nw) ∧ (0 ≤ x3.toInt ∧ x3.toInt ≤ 1) then (if x3 = 0 then (uCross (xPassIn M (tn x1) (tn x2)) (nI h0) 23) else xPassIn M (tn x1) (tn x2) (uCross (xPassIn M (tn x1) (tn x2)) (nI h0) 23)) else -1)
    = if (0 ≤ x1.toInt ∧ x1.toInt < n) ∧ (0 ≤ x2.toInt ∧ x2.toInt < nw) ∧ (0 ≤ x3.toInt ∧ x3.toInt ≤ 1) then (if x3 = 0 then uCross (mPassIn M (tn x1) (tn x2)) (M.1 252 4) 23 else mPassIn M (tn x1) (tn x2) (uCross (mPassIn M (tn x1) (tn x2)) (M.1 252 4) 23)) else -1 := by
  have h6 := R.1.1
  have h6' := R.1.2.1
  by_cases c : (0 ≤ x1.toInt ∧ x1.toInt < n) ∧ (0 ≤ x2.toInt ∧ x2.toInt < nw) ∧ (0 ≤ x3.toInt ∧ x3.toInt ≤ 1)
  · rw [if_pos c, if_pos c]
    obtain ⟨h1, -⟩ := u_tn c.1 (by omega)
    obtain ⟨h2, -⟩ := u_tn c.2.1 (by omega)
    rw [q_crossf R h1 h2, ← hh, r_hour R]
  · rw [if_neg c, if_neg c]
/-- the book's entries, both sides -/
theorem r_book (R : rFord M.1 1 (M.1 252) n nw) {b : Nat} (hb : M.1 11 0 = nI b) (hb12 : b ≤ 12) {e : Nat} (he : e < b) : xHWf M e = mHWf M e ∧ M.1 12 e = M.1 252 (79 + 3 * e) ∧ xHWl M e = mHWl M e := by
  have h6 := R.1.1
  obtain ⟨b', hb', e1, -, hE⟩ := R.2.2.2.2.2.2.2.1
  have e1 : M.1 11 0 = nI b' := e1
  have ebb : b = b' := (nI_eq (a := b) (b := b') (by omega) (by omega)).mp (hb.symm.trans e1)
  subst ebb
  obtain ⟨f1, f2, f3, p, hp, f4⟩ := hE e he
  have f1 : M.1 12 e = M.1 252 (79 + 3 * e) := f1
  have f2 : M.1 13 e = M.1 252 (79 + 3 * e + 1) := f2
  have tp : tn (M.1 252 (79 + 3 * e)) = p := by rw [f4]; exact tn_nI (by omega)
  obtain ⟨g1, k, hk, g2⟩ := (R.2.2.1 p hp).2.1
  have g1 : M.1 3 p = M.1 252 (7 + 10 * p + 1) := g1
  have f3 : (M.1 252 (79 + 3 * e + 2) = 1 ∧ M.1 14 e = 1) ∨ (M.1 252 (79 + 3 * e + 2) = 0 ∧ M.1 14 e = 2) := f3
  refine ⟨?_, f1, ?_⟩
  · unfold xHWf mHWf
    rw [f1, tp, g1, g2]
    rcases f3 with ⟨a, c⟩ | ⟨a, c⟩ <;> rw [a, c] <;> rcases (show k = 0 ∨ k = 1 by omega) with rfl | rfl <;> decide
  · unfold xHWl mHWl
    rw [f2]
    rcases f3 with ⟨a, c⟩ | ⟨a, c⟩ <;> rw [a, c] <;> rfl
theorem uHW_x {f g : Nat → Bool} {w v l m : Nat → Int32} (k : Nat) : (∀ e, e < k → f e = g e ∧ w e = v e ∧ l e = m e) → (uHW g v m k).1 = xCnt f k ∧ (uHW g v m k).2 = xUn f w l k := by
  induction k with
  | zero => intro _; exact ⟨rfl, rfl⟩
  | succ k ih =>
    intro h
    obtain ⟨i1, i2⟩ := ih (fun e he => h e (by omega))
    obtain ⟨a, b, c⟩ := h k (by omega)
    have eU : uHW g v m (k + 1) = if g k = true then (if (uHW g v m k).2.2 ≤ m k then ((uHW g v m k).1 + 1, (uHW g v m k).2) else ((uHW g v m k).1 + 1, v k, m k)) else uHW g v m k := rfl
    have eC : xCnt f (k + 1) = if f k = true then xCnt f k + 1 else xCnt f k := rfl
    have eN : xUn f w l (k + 1) = if f k = true ∧ ¬ (xUn f w l k).2 ≤ l k then (w k, l k) else xUn f w l k := rfl
    rw [eU, eC, eN, a, b, c, ← i1, ← i2]
    by_cases hg : g k = true
    · rw [if_pos hg, if_pos hg]
      by_cases hl : (uHW g v m k).2.2 ≤ m k
      · rw [if_pos hl, if_neg (fun z => z.2 hl)]; exact ⟨rfl, rfl⟩
      · rw [if_neg hl, if_pos ⟨hg, hl⟩]; exact ⟨rfl, rfl⟩
    · rw [if_neg hg, if_neg hg, if_neg (fun z => hg z.1)]; exact ⟨rfl, rfl⟩
theorem q_heard (R : rFord M.1 1 (M.1 252) n nw) {b : Nat} (hb : M.1 11 0 = nI b) (hb12 : b ≤ 12) (x1 : Int32) :
    (if 0 ≤ x1.toInt ∧ x1.toInt ≤ 1 then (if x1 = 0 then xCnt (xHWf M) b else (xUn (xHWf M) (M.1 12) (xHWl M) b).1) else -1)
    = if 0 ≤ x1.toInt ∧ x1.toInt ≤ 1 then (if x1 = 0 then (mHW M b).1 else (mHW M b).2.1) else -1 := by
  obtain ⟨e1, e2⟩ := uHW_x (f := xHWf M) (g := mHWf M) (w := M.1 12) (v := fun k => M.1 252 (79 + 3 * k)) (l := xHWl M) (m := mHWl M) b (fun e he => r_book R hb hb12 he)
  unfold mHW
  rw [e1, e2]
end QU2
