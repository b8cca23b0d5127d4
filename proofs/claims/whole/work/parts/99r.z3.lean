/-! the calls of sheets; tongues -/
theorem z6_film (l : Launch) (E : uE) (hI : uI E) (M : uM) (A : rAll M) (x1 : Int32) (x2 : Int32) (x3 : Int32) (x4 : Int32) (x5 : Int32) (x6 : Int32) : zC l E M yX6_film wsX6_film ({ frames := 5, cells := 0, slots := 0, locals := 120 }) yX7_film wsX7_film ({ frames := 4, cells := 0, slots := 0, locals := 100 }) [.int x1, .int x2, .int x3, .int x4, .int x5, .int x6] := by
  obtain ⟨n, nw, k, F, P, hk, R⟩ := rAll_get A
  obtain ⟨⟨a0, n6, a4, w6⟩, ⟨j0, j1⟩, t6, t7⟩ := z_f F
  refine ⟨_, k_X6_film l E hI M x1 x2 x3 x4 x5 x6 n a0 n6 nw a4 w6 t6 (z_sz A).1, fun r1 u1 h => ?_⟩
  by_cases c : (0 ≤ x1.toInt ∧ x1.toInt < n) ∧ (0 ≤ x2.toInt ∧ x2.toInt < nw) ∧ (1 ≤ x3.toInt ∧ x3.toInt ≤ 24) ∧ (0 ≤ x4.toInt ∧ x4.toInt ≤ 3) ∧ (0 ≤ x5.toInt ∧ x5.toInt ≤ 3)
  · rw [if_pos c] at h
    obtain ⟨p1, -⟩ := u_tn c.1 (by omega)
    obtain ⟨p2, -⟩ := u_tn c.2.1 (by omega)
    obtain ⟨p4, -⟩ := u_tn (x := x4) (n := 4) ⟨c.2.2.2.1.1, by omega⟩ (by omega)
    have S := A.2.2.2.1 (tn x4) p4
    rw [q_whyS S] at h
    by_cases d : mWhyS M (tn x4) x5 x6 x3 = 0
    · rw [if_pos d] at h
      obtain ⟨hu, hr⟩ := h
      have d0 : 0 ≤ mWhyS M (tn x4) x5 x6 x3 := by rw [d]; decide
      obtain ⟨o1, o2, o3, o4, o5⟩ := mWhyS_ok d0
      obtain ⟨z, hz, ez⟩ := S.2.2.1
      rw [ez, nI_toInt (by omega)] at o3
      have e6 : (tn x6 : Int) = x6.toInt := tn_int o1
      have e3 : (tn x3 : Int) = x3.toInt := tn_int (by omega)
      have el : M.1 (243 + 2 * tn x4) 1 = x5 := by
        rcases S.1 with ⟨-, z2⟩ | ⟨-, z2, -⟩
        · rw [z2] at o5; exact absurd o5 (by decide)
        · exact z2.trans o4
      have e1 : u1.1 = M.1 := by rw [hu]; exact xFilm_1 M _ _ _ _ _
      refine ⟨_, k_X7_film l E hI u1 x1 x2 x3 x4 x5 x6 n (by rw [e1]; exact j0) n6 nw (by rw [e1]; exact j1) w6 (by rw [e1]; exact t7) (by rw [e1]; exact (z_sz A).2), fun r2 u2 h2 => ?_⟩
      have ew : mWhyS u1 (tn x4) x5 x6 x3 = mWhyS M (tn x4) x5 x6 x3 := by unfold mWhyS; rw [e1]
      rw [if_pos c, ew, if_pos d0] at h2
      obtain ⟨hu2, hr2⟩ := h2
      rw [hu2, hu]
      exact ⟨hr.trans hr2.symm, s_film A F p1 p2 p4 (by omega) el⟩
    · rw [if_neg d] at h
      obtain ⟨rfl, hr⟩ := h
      refine ⟨_, k_X7_film l E hI M x1 x2 x3 x4 x5 x6 n j0 n6 nw j1 w6 t7 (z_sz A).2, fun r2 u2 h2 => ?_⟩
      rw [if_pos c, if_neg (fun z => d (mWhyS_z z))] at h2
      obtain ⟨hr2, rfl⟩ := h2
      exact ⟨hr.trans hr2.symm, A⟩
  · rw [if_neg c] at h
    obtain ⟨hr, rfl⟩ := h
    refine ⟨_, k_X7_film l E hI M x1 x2 x3 x4 x5 x6 n j0 n6 nw j1 w6 t7 (z_sz A).2, fun r2 u2 h2 => ?_⟩
    rw [if_neg c] at h2
    obtain ⟨hr2, rfl⟩ := h2
    exact ⟨hr.trans hr2.symm, A⟩
theorem z6_sheet (l : Launch) (E : uE) (hI : uI E) (M : uM) (A : rAll M) (x1 : Int32) (x2 : Int32) (x3 : Int32) : zC l E M yX6_sheet wsX6_sheet ({ frames := 2, cells := 0, slots := 0, locals := 42 }) yX7_sheet wsX7_sheet ({ frames := 2, cells := 0, slots := 0, locals := 45 }) [.int x1, .int x2, .int x3] := by
  obtain ⟨n, nw, k, F, P, hk, R⟩ := rAll_get A
  obtain ⟨⟨a0, n6, a4, w6⟩, ⟨j0, j1⟩, t6, t7⟩ := z_f F
  refine ⟨_, k_X6_sheet l E hI M x1 x2 x3 , fun r1 u1 h => ?_⟩
  by_cases c : (0 ≤ x1.toInt ∧ x1.toInt ≤ 3) ∧ (0 ≤ x2.toInt ∧ x2.toInt ≤ 3) ∧ x3 ≤ 24
  · rw [if_pos c] at h
    by_cases d : 0 ≤ x3
    · rw [if_pos d] at h
      obtain ⟨hu, hr⟩ := h
      obtain ⟨p1, -⟩ := u_tn (x := x1) (n := 4) ⟨c.1.1, by omega⟩ (by omega)
      obtain ⟨p2, e2⟩ := u_tn (x := x2) (n := 4) ⟨c.2.1.1, by omega⟩ (by omega)
      obtain ⟨p3, e3⟩ := u_tn (x := x3) (n := 25) (by
        have c3 := c.2.2
        rw [Int32.le_iff_toInt_le] at c3 d
        have z0 : (0 : Int32).toInt = 0 := rfl
        have z1 : (24 : Int32).toInt = 24 := rfl
        omega) (by omega)
      refine ⟨_, k_X7_sheet l E hI u1 x1 x2 x3, fun r2 u2 h2 => ?_⟩
      rw [if_pos c, if_pos d] at h2
      obtain ⟨hu2, hr2⟩ := h2
      refine ⟨hr.trans hr2.symm, ?_⟩
      rw [hu2, hu]
      have key := s_sheet A p1 p2 (show tn x3 ≤ 24 by omega)
      rw [← e2, ← e3] at key
      exact key
    · rw [if_neg d] at h
      obtain ⟨hr, rfl⟩ := h
      refine ⟨_, k_X7_sheet l E hI M x1 x2 x3, fun r2 u2 h2 => ?_⟩
      rw [if_pos c, if_neg d] at h2
      obtain ⟨hr2, rfl⟩ := h2
      exact ⟨hr.trans hr2.symm, A⟩
  · rw [if_neg c] at h
    obtain ⟨hr, rfl⟩ := h
    refine ⟨_, k_X7_sheet l E hI M x1 x2 x3, fun r2 u2 h2 => ?_⟩
    rw [if_neg c] at h2
    obtain ⟨hr2, rfl⟩ := h2
    exact ⟨hr.trans hr2.symm, A⟩
theorem z6_drop (l : Launch) (E : uE) (hI : uI E) (M : uM) (A : rAll M) (x1 : Int32) : zC l E M yX6_drop wsX6_drop ({ frames := 2, cells := 0, slots := 0, locals := 42 }) yX7_drop wsX7_drop ({ frames := 2, cells := 0, slots := 0, locals := 45 }) [.int x1] := by
  obtain ⟨n, nw, k, F, P, hk, R⟩ := rAll_get A
  obtain ⟨⟨a0, n6, a4, w6⟩, ⟨j0, j1⟩, t6, t7⟩ := z_f F
  refine ⟨_, k_X6_drop l E hI M x1 , fun r1 u1 h => ?_⟩
  by_cases c : 0 ≤ x1.toInt ∧ x1.toInt ≤ 3
  · rw [if_pos c] at h
    obtain ⟨p1, -⟩ := u_tn (x := x1) (n := 4) ⟨c.1, by omega⟩ (by omega)
    have S := A.2.2.2.1 (tn x1) p1
    rcases S.1 with ⟨z1, z2⟩ | ⟨z1, z2, l', hl, el⟩
    · rw [if_pos z1] at h
      obtain ⟨hr, rfl⟩ := h
      refine ⟨_, k_X7_drop l E hI M x1, fun r2 u2 h2 => ?_⟩
      rw [if_pos c, if_neg (by rw [z2]; decide)] at h2
      obtain ⟨hr2, rfl⟩ := h2
      exact ⟨hr.trans hr2.symm, A⟩
    · rw [if_neg (by rw [z1]; decide)] at h
      obtain ⟨hu, hr⟩ := h
      have e259 : u1.1 259 = M.1 259 := by rw [hu]; exact u_set_far (by omega)
      have e260 : u1.1 260 = M.1 260 := by rw [hu]; exact u_set_far (by omega)
      refine ⟨_, k_X7_drop l E hI u1 x1, fun r2 u2 h2 => ?_⟩
      rw [if_pos c, e259, e260, if_pos (by rw [el]; exact nI_pos' (by omega))] at h2
      obtain ⟨hu2, hr2⟩ := h2
      refine ⟨?_, ?_⟩
      · rw [hr, hr2, hu, u_set_by (by decide)]
        exact S.2.1
      · rw [hu2, hu]
        exact s_drop A p1
  · rw [if_neg c] at h
    obtain ⟨hr, rfl⟩ := h
    refine ⟨_, k_X7_drop l E hI M x1, fun r2 u2 h2 => ?_⟩
    rw [if_neg c] at h2
    obtain ⟨hr2, rfl⟩ := h2
    exact ⟨hr.trans hr2.symm, A⟩
theorem z6_item (l : Launch) (E : uE) (hI : uI E) (M : uM) (A : rAll M) (x1 : Int32) (x2 : Int32) (x3 : Int32) (v : Int64) : zC l E M yX6_item wsX6_item ({ frames := 2, cells := 0, slots := 0, locals := 45 }) yX7_item wsX7_item ({ frames := 2, cells := 0, slots := 0, locals := 45 }) [.int x1, .int x2, .int x3, .long v] := by
  obtain ⟨n, nw, k, F, P, hk, R⟩ := rAll_get A
  obtain ⟨⟨a0, n6, a4, w6⟩, ⟨j0, j1⟩, t6, t7⟩ := z_f F
  refine ⟨_, k_X6_item l E hI M x1 x2 x3 v (z_sz A).1, fun r1 u1 h => ?_⟩
  by_cases c : (0 ≤ x1.toInt ∧ x1.toInt ≤ 3) ∧ (0 ≤ x2.toInt ∧ x2.toInt ≤ 3)
  · rw [if_pos c] at h
    obtain ⟨p1, -⟩ := u_tn (x := x1) (n := 4) ⟨c.1.1, by omega⟩ (by omega)
    have S := A.2.2.2.1 (tn x1) p1
    rw [q_whyS S] at h
    by_cases d : mWhyS M (tn x1) x2 x3 1 = 0
    · rw [if_pos d] at h
      obtain ⟨hu, hr⟩ := h
      have d0 : 0 ≤ mWhyS M (tn x1) x2 x3 1 := by rw [d]; decide
      obtain ⟨o1, o2, o3, o4, o5⟩ := mWhyS_ok d0
      obtain ⟨z, hz, ez⟩ := S.2.2.1
      have z1 : (1 : Int32).toInt = 1 := rfl
      rw [ez, nI_toInt (by omega), z1] at o3
      have e6 : (tn x3 : Int) = x3.toInt := tn_int o1
      have el : M.1 (243 + 2 * tn x1) 1 = x2 := by
        rcases S.1 with ⟨-, z2⟩ | ⟨-, z2, -⟩
        · rw [z2] at o5; exact absurd o5 (by decide)
        · exact z2.trans o4
      rw [el] at hu
      have e1 : u1.1 = M.1 := by rw [hu]; rfl
      refine ⟨_, k_X7_item l E hI u1 x1 x2 x3 v (by rw [e1]; exact (z_sz A).2), fun r2 u2 h2 => ?_⟩
      have ew : mWhyS u1 (tn x1) x2 x3 1 = mWhyS M (tn x1) x2 x3 1 := by unfold mWhyS; rw [e1]
      rw [if_pos c, ew, if_pos d0] at h2
      obtain ⟨hu2, hr2⟩ := h2
      rw [hu2, hu]
      exact ⟨hr.trans hr2.symm, s_item A p1 (by omega) _⟩
    · rw [if_neg d] at h
      obtain ⟨rfl, hr⟩ := h
      refine ⟨_, k_X7_item l E hI M x1 x2 x3 v (z_sz A).2, fun r2 u2 h2 => ?_⟩
      rw [if_pos c, if_neg (fun z => d (mWhyS_z z))] at h2
      obtain ⟨hr2, rfl⟩ := h2
      exact ⟨hr.trans hr2.symm, A⟩
  · rw [if_neg c] at h
    obtain ⟨hr, rfl⟩ := h
    refine ⟨_, k_X7_item l E hI M x1 x2 x3 v (z_sz A).2, fun r2 u2 h2 => ?_⟩
    rw [if_neg c] at h2
    obtain ⟨hr2, rfl⟩ := h2
    exact ⟨hr.trans hr2.symm, A⟩
