/-! the calls that do something -/
theorem z6_speaker (l : Launch) (E : uE) (hI : uI E) (M : uM) (A : rAll M) (x1 : Int32) (x2 : Int32) (x3 : Int32) : zC l E M yX6_speaker wsX6_speaker ({ frames := 1, cells := 0, slots := 0, locals := 23 }) yX7_speaker wsX7_speaker ({ frames := 1, cells := 0, slots := 0, locals := 25 }) [.int x1, .int x2, .int x3] := by
  obtain ⟨n, nw, k, F, P, hk, R⟩ := rAll_get A
  obtain ⟨⟨a0, n6, a4, w6⟩, ⟨j0, j1⟩, t6, t7⟩ := z_f F
  refine ⟨_, k_X6_speaker l E hI M x1 x2 x3 n a0 n6, fun r1 u1 h => ?_⟩
  by_cases c : (0 ≤ x1.toInt ∧ x1.toInt ≤ 4) ∧ (0 ≤ x2.toInt ∧ x2.toInt ≤ 1) ∧ (0 ≤ x3.toInt ∧ x3.toInt ≤ 9)
  · rw [if_pos c] at h
    by_cases d : n < 6
    · rw [if_pos d] at h
      obtain ⟨rfl, hr⟩ := h
      obtain ⟨s1, s2, s3⟩ := s_speaker F R d c.1 c.2.1 c.2.2
      refine ⟨_, k_X7_speaker l E hI _ x1 x2 x3 n (by rw [s3]; exact j0) n6, fun r2 u2 h2 => ?_⟩
      rw [if_pos c, if_neg (by omega)] at h2
      obtain ⟨rfl, hr2⟩ := h2
      refine ⟨?_, s1⟩
      rw [hr, hr2, s2]
      exact (nI_pred n).symm
    · rw [if_neg d] at h
      obtain ⟨hr, rfl⟩ := h
      refine ⟨_, k_X7_speaker l E hI M x1 x2 x3 n j0 n6, fun r2 u2 h2 => ?_⟩
      rw [if_pos c, if_pos (by omega)] at h2
      obtain ⟨hr2, rfl⟩ := h2
      exact ⟨hr.trans hr2.symm, A⟩
  · rw [if_neg c] at h
    obtain ⟨hr, rfl⟩ := h
    refine ⟨_, k_X7_speaker l E hI M x1 x2 x3 n j0 n6, fun r2 u2 h2 => ?_⟩
    rw [if_neg c] at h2
    obtain ⟨hr2, rfl⟩ := h2
    exact ⟨hr.trans hr2.symm, A⟩
theorem z6_can (l : Launch) (E : uE) (hI : uI E) (M : uM) (A : rAll M) (x1 : Int32) (x2 : Int32) (x3 : Int32) : zC l E M yX6_can wsX6_can ({ frames := 2, cells := 0, slots := 0, locals := 43 }) yX7_can wsX7_can ({ frames := 2, cells := 0, slots := 0, locals := 46 }) [.int x1, .int x2, .int x3] := by
  obtain ⟨n, nw, k, F, P, hk, R⟩ := rAll_get A
  obtain ⟨⟨a0, n6, a4, w6⟩, ⟨j0, j1⟩, t6, t7⟩ := z_f F
  refine ⟨_, k_X6_can l E hI M x1 x2 x3 n a0 n6, fun r1 u1 h => ?_⟩
  by_cases c : (0 ≤ x1.toInt ∧ x1.toInt < n) ∧ (0 ≤ x2.toInt ∧ x2.toInt ≤ 5) ∧ (0 ≤ x3.toInt ∧ x3.toInt ≤ 9)
  · rw [if_pos c] at h
    obtain ⟨rfl, hr⟩ := h
    obtain ⟨p1, -⟩ := u_tn c.1 (by omega)
    obtain ⟨p2, -⟩ := u_tn (x := x2) (n := 6) ⟨c.2.1.1, by omega⟩ (by omega)
    obtain ⟨p3, e3⟩ := u_tn (x := x3) (n := 10) ⟨c.2.2.1, by omega⟩ (by omega)
    refine ⟨_, k_X7_can l E hI _ x1 x2 x3 n j0 n6, fun r2 u2 h2 => ?_⟩
    rw [if_pos c] at h2
    obtain ⟨rfl, hr2⟩ := h2
    refine ⟨hr.trans (Eq.trans ?_ hr2.symm), s_can F P hk R p1 p2 ⟨tn x3, by omega, e3⟩⟩
    exact ((F.2.2.1 _ p1).2.2 _ p2).1
  · rw [if_neg c] at h
    obtain ⟨hr, rfl⟩ := h
    refine ⟨_, k_X7_can l E hI M x1 x2 x3 n j0 n6, fun r2 u2 h2 => ?_⟩
    rw [if_neg c] at h2
    obtain ⟨hr2, rfl⟩ := h2
    exact ⟨hr.trans hr2.symm, A⟩
theorem z6_word (l : Launch) (E : uE) (hI : uI E) (M : uM) (A : rAll M) (x1 : Int32) : zC l E M yX6_word wsX6_word ({ frames := 1, cells := 0, slots := 0, locals := 22 }) yX7_word wsX7_word ({ frames := 1, cells := 0, slots := 0, locals := 25 }) [.int x1] := by
  obtain ⟨n, nw, k, F, P, hk, R⟩ := rAll_get A
  obtain ⟨⟨a0, n6, a4, w6⟩, ⟨j0, j1⟩, t6, t7⟩ := z_f F
  refine ⟨_, k_X6_word l E hI M x1 nw a4 w6, fun r1 u1 h => ?_⟩
  by_cases c : 1 ≤ x1.toInt ∧ x1.toInt ≤ 63
  · rw [if_pos c] at h
    by_cases d : nw < 6
    · rw [if_pos d] at h
      obtain ⟨rfl, hr⟩ := h
      refine ⟨_, k_X7_word l E hI _ x1 nw j1 w6, fun r2 u2 h2 => ?_⟩
      rw [if_pos c, if_neg (by omega)] at h2
      obtain ⟨rfl, hr2⟩ := h2
      exact ⟨hr.trans hr2.symm, s_word F R d c⟩
    · rw [if_neg d] at h
      obtain ⟨hr, rfl⟩ := h
      refine ⟨_, k_X7_word l E hI M x1 nw j1 w6, fun r2 u2 h2 => ?_⟩
      rw [if_pos c, if_pos (by omega)] at h2
      obtain ⟨hr2, rfl⟩ := h2
      exact ⟨hr.trans hr2.symm, A⟩
  · rw [if_neg c] at h
    obtain ⟨hr, rfl⟩ := h
    refine ⟨_, k_X7_word l E hI M x1 nw j1 w6, fun r2 u2 h2 => ?_⟩
    rw [if_neg c] at h2
    obtain ⟨hr2, rfl⟩ := h2
    exact ⟨hr.trans hr2.symm, A⟩
theorem z6_guard (l : Launch) (E : uE) (hI : uI E) (M : uM) (A : rAll M) (x1 : Int32) (x2 : Int32) : zC l E M yX6_guard wsX6_guard ({ frames := 1, cells := 0, slots := 0, locals := 22 }) yX7_guard wsX7_guard ({ frames := 1, cells := 0, slots := 0, locals := 25 }) [.int x1, .int x2] := by
  obtain ⟨n, nw, k, F, P, hk, R⟩ := rAll_get A
  obtain ⟨⟨a0, n6, a4, w6⟩, ⟨j0, j1⟩, t6, t7⟩ := z_f F
  refine ⟨_, k_X6_guard l E hI M x1 x2 , fun r1 u1 h => ?_⟩
  by_cases c : x1 = 0 ∧ (0 ≤ x2.toInt ∧ x2.toInt ≤ 10)
  · rw [if_pos c] at h
    obtain ⟨rfl, hr⟩ := h
    obtain ⟨p2, e2⟩ := u_tn (x := x2) (n := 11) ⟨c.2.1, by omega⟩ (by omega)
    refine ⟨_, k_X7_guard l E hI _ x1 x2, fun r2 u2 h2 => ?_⟩
    rw [if_pos (Or.inl c), c.1] at h2
    obtain ⟨rfl, hr2⟩ := h2
    exact ⟨hr.trans ((show M.1 1 6 = M.1 252 2 from F.2.1.1).trans hr2.symm), s_guard (g := 0) F P hk R (Or.inl ⟨rfl, tn x2, by omega, e2⟩)⟩
  · rw [if_neg c] at h
    by_cases d : x1 = 1 ∧ (1 ≤ x2.toInt ∧ x2.toInt ≤ 24)
    · rw [if_pos d] at h
      obtain ⟨rfl, hr⟩ := h
      obtain ⟨p2, e2⟩ := u_tn (x := x2) (n := 25) ⟨by omega, by omega⟩ (by omega)
      have e3 : (tn x2 : Int) = x2.toInt := tn_int (by omega)
      refine ⟨_, k_X7_guard l E hI _ x1 x2, fun r2 u2 h2 => ?_⟩
      rw [if_pos (Or.inr d), d.1] at h2
      obtain ⟨rfl, hr2⟩ := h2
      exact ⟨hr.trans ((show M.1 1 7 = M.1 252 3 from F.2.1.2.2.1).trans hr2.symm), s_guard (g := 1) F P hk R (Or.inr ⟨rfl, tn x2, by omega, by omega, e2⟩)⟩
    · rw [if_neg d] at h
      obtain ⟨hr, rfl⟩ := h
      refine ⟨_, k_X7_guard l E hI M x1 x2, fun r2 u2 h2 => ?_⟩
      rw [if_neg (fun z => z.elim c d)] at h2
      obtain ⟨hr2, rfl⟩ := h2
      exact ⟨hr.trans hr2.symm, A⟩
theorem z6_type (l : Launch) (E : uE) (hI : uI E) (M : uM) (A : rAll M) (x1 : Int32) : zC l E M yX6_type wsX6_type ({ frames := 1, cells := 0, slots := 0, locals := 22 }) yX7_type wsX7_type ({ frames := 1, cells := 0, slots := 0, locals := 25 }) [.int x1] := by
  obtain ⟨n, nw, k, F, P, hk, R⟩ := rAll_get A
  obtain ⟨⟨a0, n6, a4, w6⟩, ⟨j0, j1⟩, t6, t7⟩ := z_f F
  obtain ⟨ty, T⟩ := R.2.1
  refine ⟨_, k_X6_type l E hI M x1 ty T.2.1 T.1, fun r1 u1 h => ?_⟩
  by_cases c : 32 ≤ x1.toInt ∧ x1.toInt ≤ 126
  · rw [if_pos c] at h
    by_cases d : ty < 90
    · rw [if_pos d] at h
      obtain ⟨rfl, hr⟩ := h
      refine ⟨_, k_X7_type l E hI _ x1 ty T.2.2.1 T.1, fun r2 u2 h2 => ?_⟩
      rw [if_pos c, if_neg (by omega)] at h2
      obtain ⟨rfl, hr2⟩ := h2
      exact ⟨hr.trans hr2.symm, s_type A T d c⟩
    · rw [if_neg d] at h
      obtain ⟨hr, rfl⟩ := h
      refine ⟨_, k_X7_type l E hI M x1 ty T.2.2.1 T.1, fun r2 u2 h2 => ?_⟩
      rw [if_pos c, if_pos (by have := T.1; omega)] at h2
      obtain ⟨hr2, rfl⟩ := h2
      exact ⟨hr.trans hr2.symm, A⟩
  · rw [if_neg c] at h
    obtain ⟨hr, rfl⟩ := h
    refine ⟨_, k_X7_type l E hI M x1 ty T.2.2.1 T.1, fun r2 u2 h2 => ?_⟩
    rw [if_neg c] at h2
    obtain ⟨hr2, rfl⟩ := h2
    exact ⟨hr.trans hr2.symm, A⟩
theorem z6_ask (l : Launch) (E : uE) (hI : uI E) (M : uM) (A : rAll M) (x1 : Int32) (x2 : Int32) : zC l E M yX6_ask wsX6_ask ({ frames := 6, cells := 0, slots := 0, locals := 142 }) yX7_ask wsX7_ask ({ frames := 5, cells := 0, slots := 0, locals := 122 }) [.int x1, .int x2] := by
  obtain ⟨n, nw, k, F, P, hk, R⟩ := rAll_get A
  obtain ⟨⟨a0, n6, a4, w6⟩, ⟨j0, j1⟩, t6, t7⟩ := z_f F
  obtain ⟨b, b12, b11, b6, bb⟩ := z_b F
  have zp := z_p R.2.2.2
  refine ⟨_, k_X6_ask l E hI M x1 x2 n a0 n6 nw a4 w6 t6 k P.2.1 P.1 b b11 b12 zp.1 zp.2.1, fun r1 u1 h => ?_⟩
  obtain ⟨e252, e251, key⟩ := z_ask A F P R b6 b12 h
  exact ⟨_, k_X7_ask l E hI u1 x1 x2 n (by rw [e252]; exact j0) n6 nw (by rw [e252]; exact j1) w6 (by rw [e252]; exact t7) k (by rw [e251]; exact hk) P.1 b (by rw [e252]; exact b6) b12, fun r2 u2 h2 => key r2 u2 h2⟩
theorem z6_said (l : Launch) (E : uE) (hI : uI E) (M : uM) (A : rAll M) (x1 : Int32) (x2 : Int32) (x3 : Int32) : zC l E M yX6_said wsX6_said ({ frames := 6, cells := 0, slots := 0, locals := 142 }) yX7_said wsX7_said ({ frames := 5, cells := 0, slots := 0, locals := 122 }) [.int x1, .int x2, .int x3] := by
  obtain ⟨n, nw, k, F, P, hk, R⟩ := rAll_get A
  obtain ⟨⟨a0, n6, a4, w6⟩, ⟨j0, j1⟩, t6, t7⟩ := z_f F
  obtain ⟨b, b12, b11, b6, bb⟩ := z_b F
  have zp := z_p R.2.2.2
  refine ⟨_, k_X6_said l E hI M x1 x2 x3 n a0 n6 nw a4 w6 t6 k P.2.1 P.1 b b11 b12 zp.1 zp.2.1, fun r1 u1 h => ?_⟩
  obtain ⟨e252, e251, key⟩ := z_said A F P R b6 b12 h
  exact ⟨_, k_X7_said l E hI u1 x1 x2 x3 n (by rw [e252]; exact j0) n6 nw (by rw [e252]; exact j1) w6 (by rw [e252]; exact t7) k (by rw [e251]; exact hk) P.1 b (by rw [e252]; exact b6) b12, fun r2 u2 h2 => key r2 u2 h2⟩
theorem z6_teach (l : Launch) (E : uE) (hI : uI E) (M : uM) (A : rAll M) (x1 : Int32) (x2 : Int32) : zC l E M yX6_teach wsX6_teach ({ frames := 4, cells := 0, slots := 0, locals := 90 }) yX7_teach wsX7_teach ({ frames := 2, cells := 0, slots := 0, locals := 46 }) [.int x1, .int x2] := by
  obtain ⟨n, nw, k, F, P, hk, R⟩ := rAll_get A
  obtain ⟨⟨a0, n6, a4, w6⟩, ⟨j0, j1⟩, t6, t7⟩ := z_f F
  obtain ⟨b, b12, b11, b6, bb⟩ := z_b F
  have zp := z_p R.2.2.2
  refine ⟨_, k_X6_teach l E hI M x1 x2 n a0 n6 nw a4 w6 t6 k P.2.1 P.1 b b11 b12 zp.1 zp.2.1, fun r1 u1 h => ?_⟩
  by_cases c : (0 ≤ x1.toInt ∧ x1.toInt < n) ∧ (0 ≤ x2.toInt ∧ x2.toInt ≤ 5)
  · rw [if_pos c] at h
    obtain ⟨p1, -⟩ := u_tn c.1 (by omega)
    obtain ⟨p2, -⟩ := u_tn (x := x2) (n := 6) ⟨c.2.1, by omega⟩ (by omega)
    have e9 : M.1 9 (tn x1) = M.1 252 (7 + 10 * tn x1 + 3) := (F.2.2.2.2.2.2.2.2.1 _ p1).2.1
    have e8 : M.1 8 (tn x1) = mFate M (tn x1) := r_fate F p1
    rw [e9, e8] at h
    by_cases d : ubit (M.1 252 (7 + 10 * tn x1 + 3)) (tn x2) = true ∨ ¬ mFate M (tn x1) = 0
    · rw [if_pos d] at h
      obtain ⟨hr, rfl⟩ := h
      refine ⟨_, k_X7_teach l E hI M x1 x2 n j0 n6 k hk P.1, fun r2 u2 h2 => ?_⟩
      rw [if_pos c, if_pos d] at h2
      obtain ⟨hr2, rfl⟩ := h2
      exact ⟨hr.trans hr2.symm, A⟩
    · rw [if_neg d] at h
      by_cases q : M.1 7 4 < 9999
      · rw [if_pos q] at h
        obtain ⟨hu, hr⟩ := h
        have q' := (q_h9999 F).mp q
        have hac : ∀ c, 15 ≤ c → u1.1 c = (xRem M k).1 c := fun c hc => by rw [hu]; exact (u_set_far (by omega)).trans (u_set_far (by omega))
        have e252 : u1.1 252 = M.1 252 := (hac 252 (by omega)).trans (xRem_far R.2.2.2 P.1 (by omega))
        have e251 : u1.1 251 = M.1 251 := (hac 251 (by omega)).trans (xRem_far R.2.2.2 P.1 (by omega))
        refine ⟨_, k_X7_teach l E hI u1 x1 x2 n (by rw [e252]; exact j0) n6 k (by rw [e251]; exact hk) P.1, fun r2 u2 h2 => ?_⟩
        have ef : mFate u1 (tn x1) = mFate M (tn x1) := by unfold mFate; rw [e252]
        rw [if_pos c, ef, e252, if_neg d, if_neg q'] at h2
        obtain ⟨hu2, hr2⟩ := h2
        rw [hr, hr2, hu2, hu]
        exact ⟨q_teach F P R.2.2.2 p1, s_teach F P R p1 p2 q'⟩
      · rw [if_neg q] at h
        obtain ⟨hr, rfl⟩ := h
        refine ⟨_, k_X7_teach l E hI M x1 x2 n j0 n6 k hk P.1, fun r2 u2 h2 => ?_⟩
        rw [if_pos c, if_neg d, if_pos (Classical.not_not.mp (fun z => q ((q_h9999 F).mpr z)))] at h2
        obtain ⟨hr2, rfl⟩ := h2
        exact ⟨hr.trans hr2.symm, A⟩
  · rw [if_neg c] at h
    obtain ⟨hr, rfl⟩ := h
    refine ⟨_, k_X7_teach l E hI M x1 x2 n j0 n6 k hk P.1, fun r2 u2 h2 => ?_⟩
    rw [if_neg c] at h2
    obtain ⟨hr2, rfl⟩ := h2
    exact ⟨hr.trans hr2.symm, A⟩
theorem z6_rest (l : Launch) (E : uE) (hI : uI E) (M : uM) (A : rAll M)  : zC l E M yX6_rest wsX6_rest ({ frames := 4, cells := 0, slots := 0, locals := 90 }) yX7_rest wsX7_rest ({ frames := 1, cells := 0, slots := 0, locals := 21 }) [] := by
  obtain ⟨n, nw, k, F, P, hk, R⟩ := rAll_get A
  obtain ⟨⟨a0, n6, a4, w6⟩, ⟨j0, j1⟩, t6, t7⟩ := z_f F
  obtain ⟨b, b12, b11, b6, bb⟩ := z_b F
  have zp := z_p R.2.2.2
  refine ⟨_, k_X6_rest l E hI M  n a0 n6 nw a4 w6 t6 k P.2.1 P.1 b b11 b12 zp.1 zp.2.1, fun r1 u1 h => ?_⟩
  obtain ⟨hu, hr⟩ := h
  have e251 : u1.1 251 = M.1 251 := by rw [hu, u_set_far (by decide)]; exact xRem_far R.2.2.2 P.1 (by omega)
  refine ⟨_, k_X7_rest l E hI u1 k (by rw [e251]; exact hk) P.1, fun r2 u2 h2 => ?_⟩
  obtain ⟨hu2, hr2⟩ := h2
  rw [hr, hr2, hu2, hu]
  exact ⟨q_rest F P R.2.2.2, s_rest F P R⟩
theorem z6_undo (l : Launch) (E : uE) (hI : uI E) (M : uM) (A : rAll M)  : zC l E M yX6_undo wsX6_undo ({ frames := 4, cells := 0, slots := 0, locals := 88 }) yX7_undo wsX7_undo ({ frames := 0, cells := 0, slots := 0, locals := 0 }) [] := by
  obtain ⟨n, nw, k, F, P, hk, R⟩ := rAll_get A
  obtain ⟨⟨a0, n6, a4, w6⟩, ⟨j0, j1⟩, t6, t7⟩ := z_f F
  refine ⟨_, k_X6_undo l E hI M  k P.2.1 P.1 (z_p R.2.2.2).1, fun r1 u1 h => ?_⟩
  by_cases c : 0 < k
  · rw [if_pos c] at h
    obtain ⟨rfl, hr⟩ := h
    obtain ⟨s1, s2, s3⟩ := s_undo F P R c
    refine ⟨_, k_X7_undo l E hI _ k (by rw [s3]; exact hk) P.1, fun r2 u2 h2 => ?_⟩
    rw [if_neg (by omega)] at h2
    obtain ⟨rfl, hr2⟩ := h2
    exact ⟨hr.trans (s2.trans hr2.symm), s1⟩
  · rw [if_neg c] at h
    obtain ⟨hr, rfl⟩ := h
    refine ⟨_, k_X7_undo l E hI M k hk P.1, fun r2 u2 h2 => ?_⟩
    rw [if_pos (by omega)] at h2
    obtain ⟨hr2, rfl⟩ := h2
    exact ⟨hr.trans hr2.symm, A⟩
theorem z6_seed (l : Launch) (E : uE) (hI : uI E) (M : uM) (A : rAll M) (x1 : Int32) : zC l E M yX6_seed wsX6_seed ({ frames := 0, cells := 0, slots := 0, locals := 0 }) yX7_seed wsX7_seed ({ frames := 0, cells := 0, slots := 0, locals := 0 }) [.int x1] := by
  obtain ⟨n, nw, k, F, P, hk, R⟩ := rAll_get A
  obtain ⟨⟨a0, n6, a4, w6⟩, ⟨j0, j1⟩, t6, t7⟩ := z_f F
  refine ⟨_, k_X6_seed l E hI M x1 , fun r1 u1 h => ?_⟩
  by_cases c : 0 ≤ x1
  · rw [if_pos c] at h
    obtain ⟨rfl, hr⟩ := h
    refine ⟨_, k_X7_seed l E hI _ x1, fun r2 u2 h2 => ?_⟩
    rw [if_pos c] at h2
    obtain ⟨rfl, hr2⟩ := h2
    exact ⟨hr.trans ((show M.1 7 5 = M.1 252 5 from F.2.2.2.2.2.1).trans hr2.symm), s_seed F P hk R x1⟩
  · rw [if_neg c] at h
    obtain ⟨hr, rfl⟩ := h
    refine ⟨_, k_X7_seed l E hI M x1, fun r2 u2 h2 => ?_⟩
    rw [if_neg c] at h2
    obtain ⟨hr2, rfl⟩ := h2
    exact ⟨hr.trans hr2.symm, A⟩
theorem z6_image (l : Launch) (E : uE) (hI : uI E) (M : uM) (A : rAll M)  : zC l E M yX6_image wsX6_image ({ frames := 4, cells := 0, slots := 0, locals := 90 }) yX7_image wsX7_image ({ frames := 0, cells := 0, slots := 0, locals := 0 }) [] := by
  obtain ⟨n, nw, k, F, P, hk, R⟩ := rAll_get A
  obtain ⟨⟨a0, n6, a4, w6⟩, ⟨j0, j1⟩, t6, t7⟩ := z_f F
  refine ⟨_, k_X6_image l E hI M  k P.2.1 P.1 (z_p R.2.2.2).1 (z_p R.2.2.2).2.2.1, fun r1 u1 h => ?_⟩
  obtain ⟨rfl, hr⟩ := h
  refine ⟨_, k_X7_image l E hI _, fun r2 u2 h2 => ?_⟩
  obtain ⟨rfl, hr2⟩ := h2
  exact ⟨hr.trans hr2.symm, s_image A F P hk⟩
theorem z6_restore (l : Launch) (E : uE) (hI : uI E) (M : uM) (A : rAll M)  : zC l E M yX6_restore wsX6_restore ({ frames := 4, cells := 0, slots := 0, locals := 90 }) yX7_restore wsX7_restore ({ frames := 0, cells := 0, slots := 0, locals := 0 }) [] := by
  obtain ⟨n, nw, k, F, P, hk, R⟩ := rAll_get A
  obtain ⟨⟨a0, n6, a4, w6⟩, ⟨j0, j1⟩, t6, t7⟩ := z_f F
  rcases R.1 with ⟨e1, e2, e3⟩ | ⟨e1, e2, n', nw', k', F', P', hk'⟩
  · refine ⟨_, k_X6_restore l E hI M 0 e3 (by decide) (z_p R.2.2.2).1 (z_p R.2.2.2).2.2.1, fun r1 u1 h => ?_⟩
    rw [if_pos e1] at h
    obtain ⟨hr, rfl⟩ := h
    refine ⟨_, k_X7_restore l E hI M, fun r2 u2 h2 => ?_⟩
    rw [if_pos e2] at h2
    obtain ⟨hr2, rfl⟩ := h2
    exact ⟨hr.trans hr2.symm, A⟩
  · refine ⟨_, k_X6_restore l E hI M k' P'.2.1 P'.1 (z_p R.2.2.2).1 (z_p R.2.2.2).2.2.1, fun r1 u1 h => ?_⟩
    rw [if_neg (by rw [e1]; decide)] at h
    obtain ⟨hu, hr⟩ := h
    have key := cp_all (b := 1) (o := 79) (Or.inl rfl) (Or.inr (Or.inl rfl)) (by decide) R.2.2.2 F' P'
    have e251 : u1.1 251 = M.1 251 := by rw [hu]; exact key.2.2.2 251 (by omega)
    refine ⟨_, k_X7_restore l E hI u1, fun r2 u2 h2 => ?_⟩
    rw [e251, if_neg (by rw [e2]; decide)] at h2
    obtain ⟨hu2, hr2⟩ := h2
    rw [hu2, hu]
    exact ⟨hr.trans hr2.symm, s_restore A F' P' hk'⟩
theorem z6_line (l : Launch) (E : uE) (hI : uI E) (M : uM) (A : rAll M) (x1 : Int32) (x2 : Int32) : zC l E M yX6_line wsX6_line ({ frames := 6, cells := 0, slots := 0, locals := 148 }) yX7_line wsX7_line ({ frames := 3, cells := 0, slots := 0, locals := 77 }) [.int x1, .int x2] := by
  obtain ⟨n, nw, k, F, P, hk, R⟩ := rAll_get A
  obtain ⟨⟨a0, n6, a4, w6⟩, ⟨j0, j1⟩, t6, t7⟩ := z_f F
  refine ⟨_, k_X6_line l E hI M x1 x2 n a0 n6 nw a4 w6 t6, fun r1 u1 h => ?_⟩
  obtain ⟨A', e252, hr⟩ := s_line A F h
  refine ⟨_, k_X7_line l E hI u1 x1 x2 n (by rw [e252]; exact j0) n6 nw (by rw [e252]; exact j1) w6 (by rw [e252]; exact t7), fun r2 u2 h2 => ?_⟩
  by_cases c : (0 ≤ x1.toInt ∧ x1.toInt < nw) ∧ -1 ≤ x2
  · rw [if_pos c] at h2
    obtain ⟨rfl, hr2⟩ := h2
    exact ⟨hr.trans hr2.symm, s_scr A' (fun k _ _ _ a => u_row_far a) (fun _ _ _ => rfl) rfl⟩
  · rw [if_neg c] at h2
    obtain ⟨hr2, rfl⟩ := h2
    refine ⟨?_, A'⟩
    rw [hr, hr2]
    unfold mLine
    rw [if_neg c]
theorem z6_proof (l : Launch) (E : uE) (hI : uI E) (M : uM) (A : rAll M) (x1 : Int32) : zC l E M yX6_proof wsX6_proof ({ frames := 8, cells := 0, slots := 0, locals := 187 }) yX7_proof wsX7_proof ({ frames := 6, cells := 0, slots := 0, locals := 147 }) [.int x1] := by
  obtain ⟨n, nw, k, F, P, hk, R⟩ := rAll_get A
  obtain ⟨⟨a0, n6, a4, w6⟩, ⟨j0, j1⟩, t6, t7⟩ := z_f F
  refine ⟨_, k_X6_proof l E hI M x1 n a0 n6 nw a4 w6 t6, fun r1 u1 h => ?_⟩
  by_cases c : 0 ≤ x1.toInt ∧ x1.toInt ≤ 1000000
  · rw [if_pos c] at h
    obtain ⟨rr, rfl, h1, h2⟩ := h
    have A' : rAll (uRow M 238 rr) := s_scr A (fun k _ _ a _ => u_row_far a) (fun _ _ _ => rfl) rfl
    refine ⟨_, k_X7_proof l E hI (uRow M 238 rr) x1 n (by rw [u_row_far (by decide)]; exact j0) n6 nw (by rw [u_row_far (by decide)]; exact j1) w6 (by rw [u_row_far (by decide)]; exact t7), fun r2 u2 h3 => ?_⟩
    rw [if_pos c] at h3
    obtain ⟨rfl, hr2⟩ := h3
    exact ⟨(q_proof (u := uRow M 238 rr) F rfl c h1 h2).trans hr2.symm, A'⟩
  · rw [if_neg c] at h
    obtain ⟨hr, rfl⟩ := h
    refine ⟨_, k_X7_proof l E hI M x1 n j0 n6 nw j1 w6 t7, fun r2 u2 h2 => ?_⟩
    rw [if_neg c] at h2
    obtain ⟨rfl, hr2⟩ := h2
    exact ⟨hr.trans hr2.symm, A⟩
theorem z6_who (l : Launch) (E : uE) (hI : uI E) (M : uM) (A : rAll M) (x1 : Int32) (x2 : Int32) (x3 : Int32) (x4 : Int32) (x5 : Int32) : zC l E M yX6_who wsX6_who ({ frames := 7, cells := 0, slots := 0, locals := 169 }) yX7_who wsX7_who ({ frames := 6, cells := 0, slots := 0, locals := 149 }) [.int x1, .int x2, .int x3, .int x4, .int x5] := by
  obtain ⟨n, nw, k, F, P, hk, R⟩ := rAll_get A
  obtain ⟨⟨a0, n6, a4, w6⟩, ⟨j0, j1⟩, t6, t7⟩ := z_f F
  refine ⟨_, k_X6_who l E hI M x1 x2 x3 x4 x5 n a0 n6 nw a4 w6 t6 (z_sz A).1, fun r1 u1 h => ?_⟩
  have c1 : u1.1 252 = M.1 252 ∧ u1.1 260 = M.1 260 := by
    split at h
    · split at h
      · split at h
        · obtain ⟨LL, rfl, -⟩ := h; exact ⟨rfl, rfl⟩
        · obtain ⟨-, rfl⟩ := h; exact ⟨rfl, rfl⟩
      · obtain ⟨rfl, -⟩ := h; exact ⟨rfl, rfl⟩
    · obtain ⟨-, rfl⟩ := h; exact ⟨rfl, rfl⟩
  obtain ⟨hr, A'⟩ := s_who A F h
  refine ⟨_, k_X7_who l E hI u1 x1 x2 x3 x4 x5 n (by rw [c1.1]; exact j0) n6 nw (by rw [c1.1]; exact j1) w6 (by rw [c1.1]; exact t7) (z_sz A').2, fun r2 u2 h2 => ?_⟩
  obtain ⟨rfl, hr2⟩ := h2
  exact ⟨hr.trans hr2.symm, A'⟩
