/-- why one isn't asked, both sides -/
theorem q_why {M : uM} {n nw : Nat} (F : rFord M.1 1 (M.1 252) n nw) (x y : Int32) : xWhy M n nw x y = mWhy M n nw x y := by
  have h6 := F.1.1
  obtain ⟨h, hh, eh⟩ := F.2.2.2.2.2.2.1
  have e9 : (M.1 7 4 < 9999) ↔ ¬ M.1 252 4 = 9999 := by
    rw [r_hour F, eh, show (9999 : Int32) = nI 9999 from rfl, nI_ltI (by omega) (by omega), nI_eq (by omega) (by omega)]
    omega
  unfold xWhy mWhy
  by_cases c : (0 ≤ x.toInt ∧ x.toInt < n) ∧ (0 ≤ y.toInt ∧ y.toInt < nw)
  · rw [if_pos c, if_pos c]
    obtain ⟨h1, -⟩ := u_tn c.1 (by omega)
    rw [r_fate F h1]
    by_cases d : mFate M (tn x) = 0
    · rw [if_pos d, if_pos d]
      by_cases e : M.1 252 4 = 9999
      · rw [if_pos e, if_neg (fun q => (e9.mp q) e)]
      · rw [if_neg e, if_pos (e9.mpr e)]
    · rw [if_neg d, if_neg d]
  · rw [if_neg c, if_neg c]
