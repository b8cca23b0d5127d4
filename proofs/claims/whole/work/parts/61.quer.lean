/-! calls that only tell: both answers are one -/
section QU
variable {M : uM} {n nw : Nat}
theorem q_skill (R : rFord M.1 1 (M.1 252) n nw) (x1 x2 x3 : Int32) :
    (if (0 ≤ x1.toInt ∧ x1.toInt < n) ∧ (0 ≤ x2.toInt ∧ x2.toInt < nw) ∧ (0 ≤ x3.toInt ∧ x3.toInt ≤ 5) then xSk M (tn x1) (M.1 10 (tn x2)) (M.1 9 (tn x1)) (tn x3) else -1)
    = if (0 ≤ x1.toInt ∧ x1.toInt < n) ∧ (0 ≤ x2.toInt ∧ x2.toInt < nw) ∧ (0 ≤ x3.toInt ∧ x3.toInt ≤ 5) then mSk M (tn x1) (M.1 252 (67 + 2 * tn x2 + 1)) (M.1 252 (7 + 10 * tn x1 + 3)) (tn x3) else -1 := by
  have h6 := R.1.1
  have h6' := R.1.2.1
  by_cases c : (0 ≤ x1.toInt ∧ x1.toInt < n) ∧ (0 ≤ x2.toInt ∧ x2.toInt < nw) ∧ (0 ≤ x3.toInt ∧ x3.toInt ≤ 5)
  · rw [if_pos c, if_pos c]
    obtain ⟨h1, -⟩ := u_tn c.1 (by omega)
    obtain ⟨h2, -⟩ := u_tn c.2.1 (by omega)
    obtain ⟨h3, -⟩ := u_tn (x := x3) (n := 6) ⟨c.2.2.1, by omega⟩ (by omega)
    rw [r_sk R h1 h3, show M.1 10 (tn x2) = M.1 252 (67 + 2 * tn x2 + 1) from (R.2.2.2.2.2.2.2.2.2 _ h2).1, show M.1 9 (tn x1) = M.1 252 (7 + 10 * tn x1 + 3) from (R.2.2.2.2.2.2.2.2.1 _ h1).2.1]
  · rw [if_neg c, if_neg c]
theorem q_worn (R : rFord M.1 1 (M.1 252) n nw) (x1 x2 : Int32) :
    (if (0 ≤ x1.toInt ∧ x1.toInt < nw) ∧ (0 ≤ x2.toInt ∧ x2.toInt ≤ 1) then (if x2 = 0 then M.1 5 (tn x1) else M.1 10 (tn x1)) else -1)
    = if (0 ≤ x1.toInt ∧ x1.toInt < nw) ∧ (0 ≤ x2.toInt ∧ x2.toInt ≤ 1) then M.1 252 (67 + 2 * tn x1 + tn x2) else -1 := by
  have h6' := R.1.2.1
  by_cases c : (0 ≤ x1.toInt ∧ x1.toInt < nw) ∧ (0 ≤ x2.toInt ∧ x2.toInt ≤ 1)
  · rw [if_pos c, if_pos c]
    obtain ⟨h1, -⟩ := u_tn c.1 (by omega)
    obtain ⟨h2, e2⟩ := u_tn (x := x2) (n := 2) ⟨c.2.1, by omega⟩ (by omega)
    rcases (show tn x2 = 0 ∨ tn x2 = 1 by omega) with z | z
    · rw [z] at e2 ⊢
      rw [if_pos (by rw [e2]; rfl)]; exact (R.2.2.2.1 _ h1).1
    · rw [z] at e2 ⊢
      rw [if_neg (by rw [e2]; decide)]; exact (R.2.2.2.2.2.2.2.2.2 _ h1).1
  · rw [if_neg c, if_neg c]
theorem q_of (R : rFord M.1 1 (M.1 252) n nw) (x1 x2 : Int32) :
    (if 0 ≤ x1.toInt ∧ x1.toInt < n then xOf M (tn x1) x2 else -1)
    = if (0 ≤ x1.toInt ∧ x1.toInt < n) ∧ (0 ≤ x2.toInt ∧ x2.toInt ≤ 3) then M.1 252 (7 + 10 * tn x1 + tn x2) else -1 := by
  have h6 := R.1.1
  by_cases c : 0 ≤ x1.toInt ∧ x1.toInt < n
  · rw [if_pos c]
    obtain ⟨h1, -⟩ := u_tn c (by omega)
    by_cases d : 0 ≤ x2.toInt ∧ x2.toInt ≤ 3
    · rw [if_pos ⟨c, d⟩]
      obtain ⟨h2, e2⟩ := u_tn (x := x2) (n := 4) ⟨d.1, by omega⟩ (by omega)
      have f1 := (R.2.2.1 _ h1).1.1
      have f2 := (R.2.2.1 _ h1).2.1.1
      have f3 := (R.2.2.2.2.2.2.2.2.1 _ h1).1
      have f4 := (R.2.2.2.2.2.2.2.2.1 _ h1).2.1
      rcases (show tn x2 = 0 ∨ tn x2 = 1 ∨ tn x2 = 2 ∨ tn x2 = 3 by omega) with z | z | z | z <;> rw [z] at e2 ⊢ <;> rw [e2] <;> unfold xOf
      · exact f1
      · exact f2
      · exact f3
      · exact f4
    · rw [if_neg (fun z => d z.2)]
      unfold xOf
      rw [if_neg (fun z => d (by rw [z]; decide)), if_neg (fun z => d (by rw [z]; decide)), if_neg (fun z => d (by rw [z]; decide)), if_neg (fun z => d (by rw [z]; decide))]
  · rw [if_neg c, if_neg (fun z => c z.1)]
theorem q_pass (R : rFord M.1 1 (M.1 252) n nw) (x1 x2 x3 : Int32) :
    (if (0 ≤ x1.toInt ∧ x1.toInt < n) ∧ (0 ≤ x2.toInt ∧ x2.toInt < nw) then (if x3 = -4 then xPassIn M (tn x1) (tn x2) (M.1 7 4) else if 0 ≤ x3.toInt ∧ x3.toInt ≤ 9999 then xPassIn M (tn x1) (tn x2) x3 else -1) else -1)
    = if (0 ≤ x1.toInt ∧ x1.toInt < n) ∧ (0 ≤ x2.toInt ∧ x2.toInt < nw) ∧ (x3 = -4 ∨ (0 ≤ x3.toInt ∧ x3.toInt ≤ 9999)) then mPassIn M (tn x1) (tn x2) (if x3 = -4 then M.1 252 4 else x3) else -1 := by
  have h6 := R.1.1
  have h6' := R.1.2.1
  by_cases c : (0 ≤ x1.toInt ∧ x1.toInt < n) ∧ (0 ≤ x2.toInt ∧ x2.toInt < nw)
  · rw [if_pos c]
    obtain ⟨h1, -⟩ := u_tn c.1 (by omega)
    obtain ⟨h2, -⟩ := u_tn c.2 (by omega)
    by_cases d : x3 = -4
    · rw [if_pos d, if_pos ⟨c.1, c.2, Or.inl d⟩, if_pos d, r_passIn R h1 h2, r_hour R]
    · rw [if_neg d]
      by_cases e : 0 ≤ x3.toInt ∧ x3.toInt ≤ 9999
      · rw [if_pos e, if_pos ⟨c.1, c.2, Or.inr e⟩, if_neg d, r_passIn R h1 h2]
      · rw [if_neg e, if_neg (fun z => by rcases z.2.2 with q | q; exact d q; exact e q)]
  · rw [if_neg c, if_neg (fun z => c ⟨z.1, z.2.1⟩)]
theorem q_wrongs (R : rFord M.1 1 (M.1 252) n nw) (x1 : Int32) :
    (if 0 ≤ x1.toInt ∧ x1.toInt < nw then xWrongs M n (tn x1) else -1) = if 0 ≤ x1.toInt ∧ x1.toInt < nw then mWrongs M n (tn x1) else -1 := by
  have h6' := R.1.2.1
  by_cases c : 0 ≤ x1.toInt ∧ x1.toInt < nw
  · rw [if_pos c, if_pos c]
    obtain ⟨h1, -⟩ := u_tn c (by omega)
    exact r_wrongs R h1
  · rw [if_neg c, if_neg c]
theorem q_count (R : rFord M.1 1 (M.1 252) n nw) (hk : M.1 1 10 = M.1 251 8) (x1 : Int32) : xCount M n x1 = mCount M n x1 := by
  obtain ⟨b, -, b1, b2, -⟩ := R.2.2.2.2.2.2.2.1
  unfold xCount mCount
  rw [R.1.2.2.1, R.1.2.2.2.1, R.1.2.2.2.2.1, R.1.2.2.2.2.2, R.2.1.1, R.2.1.2.2.1, r_hour R, r_hears, r_those R, r_those R, r_those R, show M.1 11 0 = M.1 252 6 from b1.trans b2.symm, hk]
theorem q_crossf (R : rFord M.1 1 (M.1 252) n nw) {p w : Nat} (hp : p < n) (hw : w < nw) : xPassIn M p w = mPassIn M p w := funext fun h => r_passIn R hp hw h
theorem uPart_x {f : Nat → Int32} (k : Nat) : k < 6 → uPart f (k + 1) = (nI (xPart f k).1, (xPart f k).2) := by
  induction k with
  | zero =>
    intro _
    show (if (uPart f 0).1 = -4 ∨ ¬ (uPart f 0).2 ≤ f 0 then (nI 0, f 0) else uPart f 0) = (nI 0, f 0)
    exact if_pos (Or.inl rfl)
  | succ k ih =>
    intro hk
    have ih := ih (by omega)
    have hle := xPart_le f k
    show (if (uPart f (k + 1)).1 = -4 ∨ ¬ (uPart f (k + 1)).2 ≤ f (k + 1) then (nI (k + 1), f (k + 1)) else uPart f (k + 1)) = _
    have e : xPart f (k + 1) = if (xPart f k).2 ≤ f (k + 1) then xPart f k else (k + 1, f (k + 1)) := rfl
    rw [ih, e]
    by_cases c : (xPart f k).2 ≤ f (k + 1)
    · rw [if_pos c]
      refine if_neg (fun z => ?_)
      rcases z with z | z
      · exact pv_ne ⟨(xPart f k).1, by omega⟩ z
      · exact z c
    · rw [if_neg c]
      exact if_pos (Or.inr c)
theorem xPart_f {f : Nat → Int32} : ∀ k, (xPart f k).2 = f (xPart f k).1
  | 0 => rfl
  | k + 1 => by
    unfold xPart
    split
    · exact xPart_f k
    · rfl
theorem xPart_congr {f g : Nat → Int32} : ∀ k, (∀ i, i ≤ k → f i = g i) → xPart f k = xPart g k
  | 0, h => by show (0, f 0) = (0, g 0); rw [h 0 (Nat.le_refl _)]
  | k + 1, h => by
    unfold xPart
    rw [xPart_congr k (fun i hi => h i (by omega)), h (k + 1) (Nat.le_refl _)]
theorem q_parting (R : rFord M.1 1 (M.1 252) n nw) (x1 : Int32) :
    (if 0 ≤ x1.toInt ∧ x1.toInt ≤ 1 then (if nw = 0 then -4 else if x1 = 0 then nI (xPart (xWrongs M n) (nw - 1)).1 else xWrongs M n (xPart (xWrongs M n) (nw - 1)).1) else -1)
    = if 0 ≤ x1.toInt ∧ x1.toInt ≤ 1 then (if x1 = 0 then (uPart (mWrongs M n) nw).1 else (uPart (mWrongs M n) nw).2) else -1 := by
  have h6' := R.1.2.1
  by_cases c : 0 ≤ x1.toInt ∧ x1.toInt ≤ 1
  · rw [if_pos c, if_pos c]
    by_cases z : nw = 0
    · rw [if_pos z, z]
      by_cases d : x1 = 0
      · rw [if_pos d]; rfl
      · rw [if_neg d]; rfl
    · rw [if_neg z, ← xPart_f (f := xWrongs M n) (nw - 1), xPart_congr (nw - 1) (fun i hi => r_wrongs R (show i < nw by omega))]
      have e := uPart_x (f := mWrongs M n) (nw - 1) (by omega)
      rw [show nw - 1 + 1 = nw by omega] at e
      rw [e]
  · rw [if_neg c, if_neg c]
end QU
