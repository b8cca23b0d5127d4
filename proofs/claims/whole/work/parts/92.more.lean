/-! a speaker, a word more -/
theorem rAll_new {M u : uM} {n nw : Nat} (R : rRest M) (F' : rFord u.1 1 (u.1 252) n nw) (h10 : u.1 1 10 = nI 0) (h8 : u.1 251 8 = nI 0) (h2 : u.2 = M.2) (hf : ∀ c, 79 ≤ c → c ≠ 251 → c ≠ 252 → c ≠ 256 → u.1 c = M.1 c) (h251 : u.1 251 2 = M.1 251 2 ∧ u.1 251 11 = M.1 251 11 ∧ u.1 251 12 = M.1 251 12) (h0 : u.1 0 = M.1 0) : rAll u := by
  have O' : rOwn u := rOwn_2 (by rw [h2]) (hf 157 (by decide) (by decide) (by decide) (by decide)) (hf 163 (by decide) (by decide) (by decide) (by decide)) (hf 167 (by decide) (by decide) (by decide) (by decide)) R.2.2.2
  have R' := rRest_far (by rw [h2]) (by rw [h2]) hf h251 h0 O' R
  exact ⟨⟨n, nw, 0, F', ⟨by decide, h10, fun i hi => absurd hi (Nat.not_lt_zero i)⟩, h8⟩, R'.1, R'.2.1, R'.2.2.1, R'.2.2.2⟩
theorem uFl_far {M : uM} {k b c : Nat} {v : Int32} (h : c ≠ k) : ∀ m, (uFill M k b v m).1 c = M.1 c := by
  intro m
  induction m with
  | zero => rfl
  | succ m ih =>
    have e : uFill M k b v (m + 1) = uSet (uFill M k b v m) k (b + m) v := rfl
    rw [e, u_set_far h, ih]
theorem uFl_at {M : uM} {k b : Nat} {v : Int32} : ∀ m j, (uFill M k b v m).1 k j = if b ≤ j ∧ j < b + m then v else M.1 k j := by
  intro m
  induction m with
  | zero => intro j; rw [if_neg (by omega)]; rfl
  | succ m ih =>
    intro j
    have e : uFill M k b v (m + 1) = uSet (uFill M k b v m) k (b + m) v := rfl
    rw [e, u_set1, if_pos rfl]
    by_cases h : j = b + m
    · rw [if_pos h, if_pos (by omega)]
    · rw [if_neg h, ih]
      by_cases h2 : b ≤ j ∧ j < b + m
      · rw [if_pos h2, if_pos (by omega)]
      · rw [if_neg h2, if_neg (by omega)]
theorem uFl_2 (M : uM) (k b : Nat) (v : Int32) : ∀ m, (uFill M k b v m).2 = M.2 := by
  intro m
  induction m with
  | zero => rfl
  | succ m ih => exact ih
theorem rCnt_0 {J : Nat → Int32} {n : Nat} : rCnt J n ≤ rCnt J (n + 1) := Nat.le_add_right _ _
theorem s_word {M : uM} {n nw : Nat} {x : Int32} (F : rFord M.1 1 (M.1 252) n nw) (R : rRest M) (hnw : nw < 6) (hx : 1 ≤ x.toInt ∧ x.toInt ≤ 63) : rAll (mWrd (xAddW (uSet M 1 10 0) 1 nw x) nw x) := by
  obtain ⟨t1, t2⟩ := u_tn (x := x) (n := 64) ⟨by omega, by omega⟩ (by decide)
  have t3 : (tn x : Int) = x.toInt := tn_int (by omega)
  have hn6 := F.1.1
  have ac : ∀ c, c ≠ 1 → c ≠ 5 → c ≠ 10 → (xAddW (uSet M 1 10 0) 1 nw x).1 c = M.1 c := fun c h1 h5 h10 => by
    unfold xAddW
    rw [u_set_far (by omega), u_set_far (by omega), u_set_far (by omega), u_set_far h1]
  have a1 : ∀ j, j ≠ 4 → j ≠ 10 → (xAddW (uSet M 1 10 0) 1 nw x).1 1 j = M.1 1 j := fun j h4 h10 => by
    unfold xAddW
    rw [u_set_by h4, u_set_far (by decide), u_set_far (by decide), u_set_by h10]
  have a14 : (xAddW (uSet M 1 10 0) 1 nw x).1 1 4 = nI (nw + 1) := u_set_at
  have a110 : (xAddW (uSet M 1 10 0) 1 nw x).1 1 10 = nI 0 := by
    unfold xAddW
    rw [u_set_by (by decide), u_set_far (by decide), u_set_far (by decide), u_set_at]; rfl
  have a5 : ∀ j, (xAddW (uSet M 1 10 0) 1 nw x).1 5 j = if j = nw then x else M.1 5 j := fun j => by
    unfold xAddW
    rw [u_set_far (by decide), u_set_far (by decide)]
    show (uSet _ 5 nw x).1 5 j = _
    rw [u_set1, if_pos rfl, u_set_far (by decide)]
  have a10 : ∀ j, (xAddW (uSet M 1 10 0) 1 nw x).1 10 j = if j = nw then 0 else M.1 10 j := fun j => by
    unfold xAddW
    rw [u_set_far (by decide)]
    show (uSet _ 10 nw 0).1 10 j = _
    rw [u_set1, if_pos rfl, u_set_far (by decide), u_set_far (by decide)]
  have a2 : (xAddW (uSet M 1 10 0) 1 nw x).2 = M.2 := rfl
  generalize xAddW (uSet M 1 10 0) 1 nw x = a at *
  have uc : ∀ c, c ≠ 251 → c ≠ 252 → (mWrd a nw x).1 c = a.1 c := fun c h1 h2 => by
    unfold mWrd
    rw [u_set_far h1, u_set_far h2, u_set_far h2, u_set_far h2]
  have u8 : (mWrd a nw x).1 251 8 = nI 0 := u_set_at
  have uj : ∀ j, j ≠ 8 → (mWrd a nw x).1 251 j = M.1 251 j := fun j hj => by
    unfold mWrd
    rw [u_set_by hj, u_set_far (by decide), u_set_far (by decide), u_set_far (by decide), ac 251 (by decide) (by decide) (by decide)]
  have e252 := ac 252 (by decide) (by decide) (by decide)
  have J1 : (mWrd a nw x).1 252 1 = nI (nw + 1) := by
    unfold mWrd
    rw [u_set_far (by decide), u_set_at]
  have Js : (mWrd a nw x).1 252 (67 + 2 * nw) = x := by
    unfold mWrd
    rw [u_set_far (by decide), u_set_by (by omega), u_set_by (by omega), u_set_at]
  have Jw : (mWrd a nw x).1 252 (67 + 2 * nw + 1) = 0 := by
    unfold mWrd
    rw [u_set_far (by decide), u_set_by (by omega), u_set_at]
  have Jo : ∀ j, j ≠ 1 → j ≠ 67 + 2 * nw → j ≠ 67 + 2 * nw + 1 → (mWrd a nw x).1 252 j = M.1 252 j := fun j h1 h2 h3 => by
    unfold mWrd
    rw [u_set_far (by decide), u_set_by h1, u_set_by h3, u_set_by h2, e252]
  have u2 : (mWrd a nw x).2 = M.2 := a2
  generalize mWrd a nw x = u at *
  have cc : ∀ c, c ≠ 1 → c ≠ 5 → c ≠ 10 → c ≠ 251 → c ≠ 252 → u.1 c = M.1 c := fun c h1 h2 h3 h4 h5 => (uc c h4 h5).trans (ac c h1 h2 h3)
  have c1 : ∀ j, j ≠ 4 → j ≠ 10 → u.1 1 j = M.1 1 j := fun j h1 h2 => by rw [uc 1 (by decide) (by decide), a1 j h1 h2]
  have d4 : u.1 1 4 = nI (nw + 1) := by rw [uc 1 (by decide) (by decide), a14]
  have d5 : ∀ j, u.1 5 j = if j = nw then x else M.1 5 j := fun j => by rw [uc 5 (by decide) (by decide), a5]
  have d10 : ∀ j, u.1 10 j = if j = nw then 0 else M.1 10 j := fun j => by rw [uc 10 (by decide) (by decide), a10]
  refine rAll_new (n := n) (nw := nw + 1) R ?_ (by rw [uc 1 (by decide) (by decide)]; exact a110) u8 u2 (fun c h h1 h2 h3 => cc c (by omega) (by omega) (by omega) h1 h2) ⟨uj 2 (by decide), uj 11 (by decide), uj 12 (by decide)⟩ (cc 0 (by decide) (by decide) (by decide) (by decide) (by decide))
  obtain ⟨⟨f1, f2, f3, f4, f5, f6⟩, ⟨b1, ⟨e, b2, b3⟩, b4, t, b5, b6, b7⟩, c, d, s1, s2, ⟨h, s3, s4⟩, ⟨b, g1, g2, g3, g4⟩, s5, s6⟩ := F
  have k0 := Jo 0 (by decide) (by omega) (by omega)
  have k2 := Jo 2 (by decide) (by omega) (by omega)
  have k3 := Jo 3 (by decide) (by omega) (by omega)
  have k4 := Jo 4 (by decide) (by omega) (by omega)
  have k5 := Jo 5 (by decide) (by omega) (by omega)
  have k6 := Jo 6 (by decide) (by omega) (by omega)
  have q7 := cc 7 (by decide) (by decide) (by decide) (by decide) (by decide)
  refine ⟨⟨f1, by omega, (c1 0 (by decide) (by decide)).trans f3, k0.trans f4, d4, J1⟩, ⟨((c1 6 (by decide) (by decide)).trans b1).trans k2.symm, ⟨e, b2, k2.trans b3⟩, ((c1 7 (by decide) (by decide)).trans b4).trans k3.symm, t, b5, b6, k3.trans b7⟩, fun p hp => ?_, fun w hw => ?_, ?_⟩
  · rw [cc (1 + 1) (by decide) (by decide) (by decide) (by decide) (by decide), cc (1 + 2) (by decide) (by decide) (by decide) (by decide) (by decide), cc (1 + 3) (by decide) (by decide) (by decide) (by decide) (by decide), Jo _ (by omega) (by omega) (by omega), Jo _ (by omega) (by omega) (by omega)]
    refine ⟨(c p hp).1, (c p hp).2.1, fun s hs => ?_⟩
    rw [Jo _ (by omega) (by omega) (by omega)]
    exact (c p hp).2.2 s hs
  · show u.1 5 w = _ ∧ _
    rw [d5]
    by_cases z : w = nw
    · subst z
      rw [if_pos rfl, Js]
      exact ⟨rfl, tn x, by omega, by omega, t2⟩
    · rw [if_neg z, Jo _ (by omega) (by omega) (by omega)]
      exact d w (by omega)
  · refine ⟨?_, ?_, ⟨h, s3, k4.trans s4⟩, ⟨b, g1, ?_, k6.trans g3, fun e he => ?_⟩, fun p hp => ?_, fun w hw => ?_⟩
    · show u.1 7 4 = _
      rw [q7, k4]; exact s1
    · show u.1 7 5 = _
      rw [q7, k5]; exact s2
    · rw [cc (1 + 6 + 4) (by decide) (by decide) (by decide) (by decide) (by decide)]; exact g2
    · rw [cc (1 + 6 + 5) (by decide) (by decide) (by decide) (by decide) (by decide), cc (1 + 6 + 6) (by decide) (by decide) (by decide) (by decide) (by decide), cc (1 + 6 + 7) (by decide) (by decide) (by decide) (by decide) (by decide), Jo _ (by omega) (by omega) (by omega), Jo _ (by omega) (by omega) (by omega), Jo _ (by omega) (by omega) (by omega)]
      exact g4 e he
    · rw [cc (1 + 6 + 1) (by decide) (by decide) (by decide) (by decide) (by decide), cc (1 + 6 + 2) (by decide) (by decide) (by decide) (by decide) (by decide), Jo _ (by omega) (by omega) (by omega), Jo _ (by omega) (by omega) (by omega)]
      exact s5 p hp
    · show u.1 10 w = _ ∧ _
      rw [d10]
      by_cases z : w = nw
      · subst z
        rw [if_pos rfl, Jw]
        exact ⟨rfl, 0, Nat.zero_le _, rfl⟩
      · rw [if_neg z, Jo _ (by omega) (by omega) (by omega), rCnt_congr n (fun p hp => Jo (7 + 10 * p + 2) (by omega) (by omega) (by omega))]
        exact s6 w (by omega)
