theorem s_speaker {M : uM} {n nw : Nat} {x y v : Int32} (F : rFord M.1 1 (M.1 252) n nw) (R : rRest M) (hn : n < 6) (hx : 0 ≤ x.toInt ∧ x.toInt ≤ 4) (hy : 0 ≤ y.toInt ∧ y.toInt ≤ 1) (hv : 0 ≤ v.toInt ∧ v.toInt ≤ 9) : rAll (mSpk (xSpk M n x y v) n x y v) ∧ (mSpk (xSpk M n x y v) n x y v).1 252 0 = nI (n + 1) ∧ (xSpk M n x y v).1 252 = M.1 252 := by
  obtain ⟨x1, x2⟩ := u_tn (x := x) (n := 5) ⟨by omega, by omega⟩ (by decide)
  obtain ⟨y1, y2⟩ := u_tn (x := y) (n := 2) ⟨by omega, by omega⟩ (by decide)
  obtain ⟨v1, v2⟩ := u_tn (x := v) (n := 10) ⟨by omega, by omega⟩ (by decide)
  have hnw6 := F.1.2.1
  have ac : ∀ c, c ≠ 1 → c ≠ 2 → c ≠ 3 → c ≠ 4 → c ≠ 8 → c ≠ 9 → (xSpk M n x y v).1 c = M.1 c := fun c h1 h2 h3 h4 h8 h9 => by
    unfold xSpk
    rw [u_set_far h1, uFl_far h4]
    unfold xAddS
    rw [u_set_far h1, u_set_far (by omega), u_set_far (by omega), u_set_far (by omega), u_set_far (by omega)]
  have a1 : ∀ j, j ≠ 0 → j ≠ 10 → (xSpk M n x y v).1 1 j = M.1 1 j := fun j h0 h10 => by
    unfold xSpk
    rw [u_set_by h10, uFl_far (by decide)]
    unfold xAddS
    rw [u_set_by h0, u_set_far (by decide), u_set_far (by decide), u_set_far (by decide), u_set_far (by decide)]
  have a10 : (xSpk M n x y v).1 1 0 = nI (n + 1) := by
    unfold xSpk
    rw [u_set_by (by decide), uFl_far (by decide)]
    exact u_set_at
  have a110 : (xSpk M n x y v).1 1 10 = nI 0 := u_set_at
  have a2 : ∀ j, (xSpk M n x y v).1 2 j = if j = n then x else M.1 2 j := fun j => by
    unfold xSpk
    rw [u_set_far (by decide), uFl_far (by decide)]
    unfold xAddS
    rw [u_set_far (by decide), u_set_far (by decide), u_set_far (by decide), u_set_far (by decide)]
    show (uSet M 2 n x).1 2 j = _
    rw [u_set1, if_pos rfl]
  have a3 : ∀ j, (xSpk M n x y v).1 3 j = if j = n then y else M.1 3 j := fun j => by
    unfold xSpk
    rw [u_set_far (by decide), uFl_far (by decide)]
    unfold xAddS
    rw [u_set_far (by decide), u_set_far (by decide), u_set_far (by decide)]
    show (uSet _ 3 n y).1 3 j = _
    rw [u_set1, if_pos rfl, u_set_far (by decide)]
  have a8 : ∀ j, (xSpk M n x y v).1 8 j = if j = n then 0 else M.1 8 j := fun j => by
    unfold xSpk
    rw [u_set_far (by decide), uFl_far (by decide)]
    unfold xAddS
    rw [u_set_far (by decide), u_set_far (by decide)]
    show (uSet _ 8 n 0).1 8 j = _
    rw [u_set1, if_pos rfl, u_set_far (by decide), u_set_far (by decide)]
  have a9 : ∀ j, (xSpk M n x y v).1 9 j = if j = n then 0 else M.1 9 j := fun j => by
    unfold xSpk
    rw [u_set_far (by decide), uFl_far (by decide)]
    unfold xAddS
    rw [u_set_far (by decide)]
    show (uSet _ 9 n 0).1 9 j = _
    rw [u_set1, if_pos rfl, u_set_far (by decide), u_set_far (by decide), u_set_far (by decide)]
  have a4 : ∀ j, (xSpk M n x y v).1 4 j = if n * 6 ≤ j ∧ j < n * 6 + 6 then v else M.1 4 j := fun j => by
    unfold xSpk
    rw [u_set_far (by decide), uFl_at]
    unfold xAddS
    rw [u_set_far (by decide), u_set_far (by decide), u_set_far (by decide), u_set_far (by decide), u_set_far (by decide)]
  have au : (xSpk M n x y v).2 = M.2 := by
    unfold xSpk
    rw [u_set2, uFl_2]; rfl
  generalize xSpk M n x y v = a at *
  have e252 := ac 252 (by decide) (by decide) (by decide) (by decide) (by decide) (by decide)
  have uc : ∀ c, c ≠ 251 → c ≠ 252 → (mSpk a n x y v).1 c = a.1 c := fun c h1 h2 => by
    unfold mSpk
    rw [u_set_far h1, u_set_far h2, uFl_far h2, u_set_far h2, u_set_far h2, u_set_far h2, u_set_far h2]
  have u8 : (mSpk a n x y v).1 251 8 = nI 0 := u_set_at
  have uj : ∀ j, j ≠ 8 → (mSpk a n x y v).1 251 j = M.1 251 j := fun j hj => by
    unfold mSpk
    rw [u_set_by hj, u_set_far (by decide), uFl_far (by decide), u_set_far (by decide), u_set_far (by decide), u_set_far (by decide), u_set_far (by decide), ac 251 (by decide) (by decide) (by decide) (by decide) (by decide) (by decide)]
  have J0 : (mSpk a n x y v).1 252 0 = nI (n + 1) := by
    unfold mSpk
    rw [u_set_far (by decide), u_set_at, uFl_at, if_neg (by omega), u_set_by (by omega), u_set_by (by omega), u_set_by (by omega), u_set_by (by omega), e252, F.1.2.2.2.1, nI_1]
  have Jk : (mSpk a n x y v).1 252 (7 + 10 * n) = x := by
    unfold mSpk
    rw [u_set_far (by decide), u_set_by (by omega), uFl_at, if_neg (by omega), u_set_by (by omega), u_set_by (by omega), u_set_by (by omega), u_set_at]
  have Jb : (mSpk a n x y v).1 252 (7 + 10 * n + 1) = y := by
    unfold mSpk
    rw [u_set_far (by decide), u_set_by (by omega), uFl_at, if_neg (by omega), u_set_by (by omega), u_set_by (by omega), u_set_at]
  have Jf : (mSpk a n x y v).1 252 (7 + 10 * n + 2) = 0 := by
    unfold mSpk
    rw [u_set_far (by decide), u_set_by (by omega), uFl_at, if_neg (by omega), u_set_by (by omega), u_set_at]
  have Jt : (mSpk a n x y v).1 252 (7 + 10 * n + 3) = 0 := by
    unfold mSpk
    rw [u_set_far (by decide), u_set_by (by omega), uFl_at, if_neg (by omega), u_set_at]
  have Js : ∀ s, s < 6 → (mSpk a n x y v).1 252 (7 + 10 * n + 4 + s) = v := fun s hs => by
    unfold mSpk
    rw [u_set_far (by decide), u_set_by (by omega), uFl_at, if_pos (by omega)]
  have Jo : ∀ j, j ≠ 0 → j < 7 + 10 * n ∨ 7 + 10 * n + 10 ≤ j → (mSpk a n x y v).1 252 j = M.1 252 j := fun j h0 h => by
    unfold mSpk
    rw [u_set_far (by decide), u_set_by h0, uFl_at, if_neg (by omega), u_set_by (by omega), u_set_by (by omega), u_set_by (by omega), u_set_by (by omega), e252]
  have u2 : (mSpk a n x y v).2 = M.2 := by
    unfold mSpk
    rw [u_set2, u_set2, uFl_2]; exact au
  generalize mSpk a n x y v = u at *
  refine ⟨?_, J0, e252⟩
  have cc : ∀ c, c ≠ 1 → c ≠ 2 → c ≠ 3 → c ≠ 4 → c ≠ 8 → c ≠ 9 → c ≠ 251 → c ≠ 252 → u.1 c = M.1 c := fun c h1 h2 h3 h4 h5 h6 h7 h8 => (uc c h7 h8).trans (ac c h1 h2 h3 h4 h5 h6)
  have c1 : ∀ j, j ≠ 0 → j ≠ 10 → u.1 1 j = M.1 1 j := fun j h1 h2 => by rw [uc 1 (by decide) (by decide), a1 j h1 h2]
  have d0 : u.1 1 0 = nI (n + 1) := by rw [uc 1 (by decide) (by decide), a10]
  have d2 : ∀ j, u.1 2 j = if j = n then x else M.1 2 j := fun j => by rw [uc 2 (by decide) (by decide), a2]
  have d3 : ∀ j, u.1 3 j = if j = n then y else M.1 3 j := fun j => by rw [uc 3 (by decide) (by decide), a3]
  have d4 : ∀ j, u.1 4 j = if n * 6 ≤ j ∧ j < n * 6 + 6 then v else M.1 4 j := fun j => by rw [uc 4 (by decide) (by decide), a4]
  have d8 : ∀ j, u.1 8 j = if j = n then 0 else M.1 8 j := fun j => by rw [uc 8 (by decide) (by decide), a8]
  have d9 : ∀ j, u.1 9 j = if j = n then 0 else M.1 9 j := fun j => by rw [uc 9 (by decide) (by decide), a9]
  refine rAll_new (n := n + 1) (nw := nw) R ?_ (by rw [uc 1 (by decide) (by decide)]; exact a110) u8 u2 (fun c h h1 h2 h3 => cc c (by omega) (by omega) (by omega) (by omega) (by omega) (by omega) h1 h2) ⟨uj 2 (by decide), uj 11 (by decide), uj 12 (by decide)⟩ (cc 0 (by decide) (by decide) (by decide) (by decide) (by decide) (by decide) (by decide) (by decide))
  obtain ⟨⟨f1, f2, f3, f4, f5, f6⟩, ⟨b1, ⟨e, b2, b3⟩, b4, t, b5, b6, b7⟩, c, d, s1, s2, ⟨h, s3, s4⟩, ⟨b, g1, g2, g3, g4⟩, s5, s6⟩ := F
  have k1 := Jo 1 (by decide) (by omega)
  have k2 := Jo 2 (by decide) (by omega)
  have k3 := Jo 3 (by decide) (by omega)
  have k4 := Jo 4 (by decide) (by omega)
  have k5 := Jo 5 (by decide) (by omega)
  have k6 := Jo 6 (by decide) (by omega)
  have q7 := cc 7 (by decide) (by decide) (by decide) (by decide) (by decide) (by decide) (by decide) (by decide)
  have q5 := cc 5 (by decide) (by decide) (by decide) (by decide) (by decide) (by decide) (by decide) (by decide)
  have q10 := cc 10 (by decide) (by decide) (by decide) (by decide) (by decide) (by decide) (by decide) (by decide)
  have q11 := cc 11 (by decide) (by decide) (by decide) (by decide) (by decide) (by decide) (by decide) (by decide)
  have q12 := cc 12 (by decide) (by decide) (by decide) (by decide) (by decide) (by decide) (by decide) (by decide)
  have q13 := cc 13 (by decide) (by decide) (by decide) (by decide) (by decide) (by decide) (by decide) (by decide)
  have q14 := cc 14 (by decide) (by decide) (by decide) (by decide) (by decide) (by decide) (by decide) (by decide)
  refine ⟨⟨by omega, f2, d0, J0, (c1 4 (by decide) (by decide)).trans f5, k1.trans f6⟩, ⟨((c1 6 (by decide) (by decide)).trans b1).trans k2.symm, ⟨e, b2, k2.trans b3⟩, ((c1 7 (by decide) (by decide)).trans b4).trans k3.symm, t, b5, b6, k3.trans b7⟩, fun p hp => ?_, fun w hw => ?_, ?_⟩
  · show (u.1 2 p = _ ∧ _) ∧ (u.1 3 p = _ ∧ _) ∧ ∀ s, s < 6 → u.1 4 (p * 6 + s) = _ ∧ _
    rw [d2, d3]
    by_cases z : p = n
    · subst z
      rw [if_pos rfl, if_pos rfl, Jk, Jb]
      refine ⟨⟨rfl, tn x, by omega, x2⟩, ⟨rfl, tn y, by omega, y2⟩, fun s hs => ?_⟩
      rw [d4, if_pos (by omega), Js s hs]
      exact ⟨rfl, tn v, by omega, v2⟩
    · rw [if_neg z, if_neg z, Jo _ (by omega) (by omega), Jo _ (by omega) (by omega)]
      have cp := c p (by omega)
      refine ⟨cp.1, cp.2.1, fun s hs => ?_⟩
      rw [d4, if_neg (by omega), Jo _ (by omega) (by omega)]
      exact cp.2.2 s hs
  · show u.1 5 w = _ ∧ _
    rw [q5, Jo _ (by omega) (by omega)]
    exact d w hw
  · refine ⟨?_, ?_, ⟨h, s3, k4.trans s4⟩, ⟨b, g1, ?_, k6.trans g3, fun e he => ?_⟩, fun p hp => ?_, fun w hw => ?_⟩
    · show u.1 7 4 = _
      rw [q7, k4]; exact s1
    · show u.1 7 5 = _
      rw [q7, k5]; exact s2
    · show u.1 11 0 = _
      rw [q11]; exact g2
    · show u.1 12 e = _ ∧ u.1 13 e = _ ∧ ((_ ∧ u.1 14 e = _) ∨ (_ ∧ u.1 14 e = _)) ∧ _
      rw [q12, q13, q14, Jo _ (by omega) (by omega), Jo _ (by omega) (by omega), Jo _ (by omega) (by omega)]
      obtain ⟨z1, z2, z3, p, z4, z5⟩ := g4 e he
      exact ⟨z1, z2, z3, p, by omega, z5⟩
    · show u.1 8 p = _ ∧ u.1 9 p = _ ∧ _
      rw [d8, d9]
      by_cases z : p = n
      · subst z
        rw [if_pos rfl, if_pos rfl, Jf, Jt]
        exact ⟨rfl, rfl, ⟨0, by decide, rfl⟩, 0, by decide, rfl⟩
      · rw [if_neg z, if_neg z, Jo _ (by omega) (by omega), Jo _ (by omega) (by omega)]
        exact s5 p (by omega)
    · show u.1 10 w = _ ∧ _
      rw [q10, Jo _ (by omega) (by omega)]
      obtain ⟨z1, v', z2, z3⟩ := s6 w hw
      refine ⟨z1, v', Nat.le_trans z2 (Nat.le_trans (Nat.le_of_eq ?_) rCnt_0), z3⟩
      exact (rCnt_congr n (fun p hp => Jo (7 + 10 * p + 2) (by omega) (by omega))).symm
