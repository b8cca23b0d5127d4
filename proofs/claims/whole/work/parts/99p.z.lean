/-! each call: the class's contract, then the reference's: both answer alike, and what holds between calls holds again -/
def zC (l : Launch) (E : uE) (M : uM) (y6 : MethodName) (ws6 : List Cond) (rm6 : Room) (y7 : MethodName) (ws7 : List Cond) (rm7 : Room) (As : List Value) : Prop :=
  ∃ Q1 : Int32 → uM → Prop, Met l y6 ws6 rm6 (va_Pc (.ref (E.2.1 0) :: As) (uB E M)) (va_Qi Q1 (uP E) (uA E)) 0 0 (uA E) ∧ ∀ r1 u1, Q1 r1 u1 → ∃ Q2 : Int32 → uM → Prop, Met l y7 ws7 rm7 (va_Pc (.ref (E.2.1 251) :: As) (uB E u1)) (va_Qi Q2 (uP E) (uA E)) 0 0 (uA E) ∧ ∀ r2 u2, Q2 r2 u2 → r1 = r2 ∧ rAll u2
theorem rAll_get {M : uM} (A : rAll M) : ∃ n nw k, rFord M.1 1 (M.1 252) n nw ∧ rPast M 1 (M.1 256) k n nw ∧ M.1 251 8 = nI k ∧ rRest M := by
  obtain ⟨⟨n, nw, k, F, P, hk⟩, a, b, c, O⟩ := A
  exact ⟨n, nw, k, F, P, hk, a, b, c, O⟩
theorem z_f {M : uM} {n nw : Nat} (F : rFord M.1 1 (M.1 252) n nw) : (M.1 1 0 = nI n ∧ n ≤ 6 ∧ M.1 1 4 = nI nw ∧ nw ≤ 6) ∧ (M.1 252 0 = nI n ∧ M.1 252 1 = nI nw) ∧ ¬ M.1 1 7 = 0 ∧ ¬ M.1 252 3 = 0 := by
  obtain ⟨⟨a1, a2, a3, a4, a5, a6⟩, ⟨-, -, b4, t, b5, b6, b7⟩, -⟩ := F
  have ht : ¬ M.1 252 3 = 0 := by rw [b7]; exact nI_ne0 (by omega) (by omega)
  exact ⟨⟨a3, a1, a5, a2⟩, ⟨a4, a6⟩, by rw [b4]; exact ht, ht⟩
theorem z_b {M : uM} {n nw : Nat} (F : rFord M.1 1 (M.1 252) n nw) : ∃ b, b ≤ 12 ∧ M.1 11 0 = nI b ∧ M.1 252 6 = nI b ∧ ∀ e, e < b → M.1 12 e = M.1 252 (79 + 3 * e) ∧ ∃ p, p < n ∧ M.1 252 (79 + 3 * e) = nI p := by
  obtain ⟨b, h1, h2, h3, h4⟩ := F.2.2.2.2.2.2.2.1
  exact ⟨b, h1, h2, h3, fun e he => ⟨(h4 e he).1, (h4 e he).2.2.2⟩⟩
theorem z_sz {M : uM} (A : rAll M) : (∀ i, i < 4 → 0 ≤ (M.1 (243 + 2 * i) 2).toInt ∧ (M.1 (243 + 2 * i) 2).toInt ≤ 24) ∧ ∀ s, s < 4 → 0 ≤ (M.1 260 s).toInt ∧ (M.1 260 s).toInt ≤ 24 := by
  have key : ∀ s, s < 4 → 0 ≤ (M.1 260 s).toInt ∧ (M.1 260 s).toInt ≤ 24 := fun s hs => by
    obtain ⟨z, hz, ez⟩ := (A.2.2.2.1 s hs).2.2.1
    rw [ez, nI_toInt (by omega)]; omega
  exact ⟨fun i hi => by rw [(A.2.2.2.1 i hi).2.1]; exact key i hi, key⟩
theorem z_p {M : uM} (O : rOwn M) : xPast M ∧ (∀ i, i < 8 → 15 ≤ M.2.2 6 i) ∧ (∀ i, i < 8 → uMom (M.2.2 84 i)) ∧ ∀ i, i < 8 → uMom (M.2.2 162 i) := by
  refine ⟨fun i hi => ?_, rOwn_15 O, fun i hi => ?_, fun i hi => ?_⟩
  · obtain ⟨q, q1, q8, e⟩ := (O.1 1 (Or.inl rfl)).1 i hi
    exact ⟨0, q, by decide, by omega, (show M.2.2 6 i = 1 + 6 + 8 * q from e).trans (by omega)⟩
  · obtain ⟨q, q1, q8, e⟩ := (O.1 79 (Or.inr (Or.inl rfl))).1 i hi
    exact ⟨1, q, by decide, by omega, (show M.2.2 84 i = 79 + 6 + 8 * q from e).trans (by omega)⟩
  · obtain ⟨q, q1, q8, e⟩ := (O.1 157 (Or.inr (Or.inr rfl))).1 i hi
    exact ⟨2, q, by decide, by omega, (show M.2.2 162 i = 157 + 6 + 8 * q from e).trans (by omega)⟩
theorem z6_of (l : Launch) (E : uE) (hI : uI E) (M : uM) (A : rAll M) (x1 : Int32) (x2 : Int32) : zC l E M yX6_of wsX6_of ({ frames := 2, cells := 0, slots := 0, locals := 43 }) yX7_of wsX7_of ({ frames := 2, cells := 0, slots := 0, locals := 46 }) [.int x1, .int x2] := by
  obtain ⟨n, nw, k, F, P, hk, R⟩ := rAll_get A
  obtain ⟨⟨a0, n6, a4, w6⟩, ⟨j0, j1⟩, t6, t7⟩ := z_f F
  refine ⟨_, k_X6_of l E hI M x1 x2 n a0 n6, fun r1 u1 h => ?_⟩
  obtain ⟨rfl, h⟩ := h
  refine ⟨_, k_X7_of l E hI M x1 x2 n j0 n6, fun r2 u2 h2 => ?_⟩
  obtain ⟨rfl, h2⟩ := h2
  exact ⟨h.trans ((q_of F x1 x2).trans h2.symm), A⟩
theorem z6_skill (l : Launch) (E : uE) (hI : uI E) (M : uM) (A : rAll M) (x1 : Int32) (x2 : Int32) (x3 : Int32) : zC l E M yX6_skill wsX6_skill ({ frames := 3, cells := 0, slots := 0, locals := 69 }) yX7_skill wsX7_skill ({ frames := 2, cells := 0, slots := 0, locals := 48 }) [.int x1, .int x2, .int x3] := by
  obtain ⟨n, nw, k, F, P, hk, R⟩ := rAll_get A
  obtain ⟨⟨a0, n6, a4, w6⟩, ⟨j0, j1⟩, t6, t7⟩ := z_f F
  refine ⟨_, k_X6_skill l E hI M x1 x2 x3 n a0 n6 nw a4 w6, fun r1 u1 h => ?_⟩
  obtain ⟨rfl, h⟩ := h
  refine ⟨_, k_X7_skill l E hI M x1 x2 x3 n j0 n6 nw j1 w6, fun r2 u2 h2 => ?_⟩
  obtain ⟨rfl, h2⟩ := h2
  exact ⟨h.trans ((q_skill F x1 x2 x3).trans h2.symm), A⟩
theorem z6_count (l : Launch) (E : uE) (hI : uI E) (M : uM) (A : rAll M) (x1 : Int32) : zC l E M yX6_count wsX6_count ({ frames := 2, cells := 0, slots := 0, locals := 42 }) yX7_count wsX7_count ({ frames := 2, cells := 0, slots := 0, locals := 45 }) [.int x1] := by
  obtain ⟨n, nw, k, F, P, hk, R⟩ := rAll_get A
  obtain ⟨⟨a0, n6, a4, w6⟩, ⟨j0, j1⟩, t6, t7⟩ := z_f F
  refine ⟨_, k_X6_count l E hI M x1 n a0 n6 t6, fun r1 u1 h => ?_⟩
  obtain ⟨rfl, h⟩ := h
  refine ⟨_, k_X7_count l E hI M x1 n j0 n6 t7, fun r2 u2 h2 => ?_⟩
  obtain ⟨rfl, h2⟩ := h2
  exact ⟨h.trans ((q_count F (P.2.1.trans hk.symm) x1).trans h2.symm), A⟩
theorem z6_worn (l : Launch) (E : uE) (hI : uI E) (M : uM) (A : rAll M) (x1 : Int32) (x2 : Int32) : zC l E M yX6_worn wsX6_worn ({ frames := 2, cells := 0, slots := 0, locals := 43 }) yX7_worn wsX7_worn ({ frames := 2, cells := 0, slots := 0, locals := 46 }) [.int x1, .int x2] := by
  obtain ⟨n, nw, k, F, P, hk, R⟩ := rAll_get A
  obtain ⟨⟨a0, n6, a4, w6⟩, ⟨j0, j1⟩, t6, t7⟩ := z_f F
  refine ⟨_, k_X6_worn l E hI M x1 x2 nw a4 w6, fun r1 u1 h => ?_⟩
  obtain ⟨rfl, h⟩ := h
  refine ⟨_, k_X7_worn l E hI M x1 x2 nw j1 w6, fun r2 u2 h2 => ?_⟩
  obtain ⟨rfl, h2⟩ := h2
  exact ⟨h.trans ((q_worn F x1 x2).trans h2.symm), A⟩
theorem z6_pass (l : Launch) (E : uE) (hI : uI E) (M : uM) (A : rAll M) (x1 : Int32) (x2 : Int32) (x3 : Int32) : zC l E M yX6_pass wsX6_pass ({ frames := 6, cells := 0, slots := 0, locals := 142 }) yX7_pass wsX7_pass ({ frames := 4, cells := 0, slots := 0, locals := 100 }) [.int x1, .int x2, .int x3] := by
  obtain ⟨n, nw, k, F, P, hk, R⟩ := rAll_get A
  obtain ⟨⟨a0, n6, a4, w6⟩, ⟨j0, j1⟩, t6, t7⟩ := z_f F
  refine ⟨_, k_X6_pass l E hI M x1 x2 x3 n a0 n6 nw a4 w6 t6, fun r1 u1 h => ?_⟩
  obtain ⟨rfl, h⟩ := h
  refine ⟨_, k_X7_pass l E hI M x1 x2 x3 n j0 n6 nw j1 w6 t7, fun r2 u2 h2 => ?_⟩
  obtain ⟨rfl, h2⟩ := h2
  exact ⟨h.trans ((q_pass F x1 x2 x3).trans h2.symm), A⟩
theorem z6_wrongs (l : Launch) (E : uE) (hI : uI E) (M : uM) (A : rAll M) (x1 : Int32) : zC l E M yX6_wrongs wsX6_wrongs ({ frames := 7, cells := 0, slots := 0, locals := 165 }) yX7_wrongs wsX7_wrongs ({ frames := 6, cells := 0, slots := 0, locals := 145 }) [.int x1] := by
  obtain ⟨n, nw, k, F, P, hk, R⟩ := rAll_get A
  obtain ⟨⟨a0, n6, a4, w6⟩, ⟨j0, j1⟩, t6, t7⟩ := z_f F
  refine ⟨_, k_X6_wrongs l E hI M x1 n a0 n6 nw a4 w6 t6, fun r1 u1 h => ?_⟩
  obtain ⟨rfl, h⟩ := h
  refine ⟨_, k_X7_wrongs l E hI M x1 n j0 n6 nw j1 w6 t7, fun r2 u2 h2 => ?_⟩
  obtain ⟨rfl, h2⟩ := h2
  exact ⟨h.trans ((q_wrongs F x1).trans h2.symm), A⟩
theorem z6_parting (l : Launch) (E : uE) (hI : uI E) (M : uM) (A : rAll M) (x1 : Int32) : zC l E M yX6_parting wsX6_parting ({ frames := 8, cells := 0, slots := 0, locals := 189 }) yX7_parting wsX7_parting ({ frames := 6, cells := 0, slots := 0, locals := 145 }) [.int x1] := by
  obtain ⟨n, nw, k, F, P, hk, R⟩ := rAll_get A
  obtain ⟨⟨a0, n6, a4, w6⟩, ⟨j0, j1⟩, t6, t7⟩ := z_f F
  refine ⟨_, k_X6_parting l E hI M x1 n a0 n6 nw a4 w6 t6, fun r1 u1 h => ?_⟩
  obtain ⟨rfl, h⟩ := h
  refine ⟨_, k_X7_parting l E hI M x1 n j0 n6 nw j1 w6 t7, fun r2 u2 h2 => ?_⟩
  obtain ⟨rfl, h2⟩ := h2
  exact ⟨h.trans ((q_parting F x1).trans h2.symm), A⟩
theorem z6_learn (l : Launch) (E : uE) (hI : uI E) (M : uM) (A : rAll M) (x1 : Int32) (x2 : Int32) (x3 : Int32) (x4 : Int32) : zC l E M yX6_learn wsX6_learn ({ frames := 6, cells := 0, slots := 0, locals := 151 }) yX7_learn wsX7_learn ({ frames := 3, cells := 0, slots := 0, locals := 77 }) [.int x1, .int x2, .int x3, .int x4] := by
  obtain ⟨n, nw, k, F, P, hk, R⟩ := rAll_get A
  obtain ⟨⟨a0, n6, a4, w6⟩, ⟨j0, j1⟩, t6, t7⟩ := z_f F
  refine ⟨_, k_X6_learn l E hI M x1 x2 x3 x4 n a0 n6 nw a4 w6 t6 (fun w hw => by obtain ⟨e1, s, s1, s2, s3⟩ := F.2.2.2.1 w hw; exact ⟨s, s2, (show M.1 5 w = _ from e1).trans s3⟩), fun r1 u1 h => ?_⟩
  obtain ⟨rfl, h⟩ := h
  refine ⟨_, k_X7_learn l E hI M x1 x2 x3 x4 n j0 n6 nw j1 w6 t7, fun r2 u2 h2 => ?_⟩
  obtain ⟨rfl, h2⟩ := h2
  exact ⟨h.trans ((q_learn F x1 x2 x3 x4).trans h2.symm), A⟩
theorem z6_cross (l : Launch) (E : uE) (hI : uI E) (M : uM) (A : rAll M) (x1 : Int32) (x2 : Int32) (x3 : Int32) : zC l E M yX6_cross wsX6_cross ({ frames := 6, cells := 0, slots := 0, locals := 147 }) yX7_cross wsX7_cross ({ frames := 4, cells := 0, slots := 0, locals := 100 }) [.int x1, .int x2, .int x3] := by
  obtain ⟨n, nw, k, F, P, hk, R⟩ := rAll_get A
  obtain ⟨⟨a0, n6, a4, w6⟩, ⟨j0, j1⟩, t6, t7⟩ := z_f F
  obtain ⟨h0, hh9, hh7⟩ := b_hour F
  have hh : M.1 7 4 = nI h0 := (r_hour F).trans hh7
  refine ⟨_, k_X6_cross l E hI M x1 x2 x3 n a0 n6 nw a4 w6 t6 h0 hh hh9, fun r1 u1 h => ?_⟩
  obtain ⟨rfl, h⟩ := h
  refine ⟨_, k_X7_cross l E hI M x1 x2 x3 n j0 n6 nw j1 w6 t7, fun r2 u2 h2 => ?_⟩
  obtain ⟨rfl, h2⟩ := h2
  exact ⟨h.trans ((q_cross F hh x1 x2 x3).trans h2.symm), A⟩
theorem z6_heardWrong (l : Launch) (E : uE) (hI : uI E) (M : uM) (A : rAll M) (x1 : Int32) : zC l E M yX6_heardWrong wsX6_heardWrong ({ frames := 2, cells := 0, slots := 0, locals := 48 }) yX7_heardWrong wsX7_heardWrong ({ frames := 1, cells := 0, slots := 0, locals := 25 }) [.int x1] := by
  obtain ⟨n, nw, k, F, P, hk, R⟩ := rAll_get A
  obtain ⟨⟨a0, n6, a4, w6⟩, ⟨j0, j1⟩, t6, t7⟩ := z_f F
  obtain ⟨b, b12, b11, b6, bb⟩ := z_b F
  refine ⟨_, k_X6_heardWrong l E hI M x1 b b11 b12 (fun e he => by obtain ⟨e1, p, p1, p2⟩ := bb e he; rw [e1, p2, tn_nI (by omega)]; exact ⟨by omega, rfl⟩), fun r1 u1 h => ?_⟩
  obtain ⟨rfl, h⟩ := h
  refine ⟨_, k_X7_heardWrong l E hI M x1 b b6 b12 (fun e he => by obtain ⟨e1, p, p1, p2⟩ := bb e he; rw [p2, tn_nI (by omega)]; exact ⟨by omega, rfl⟩), fun r2 u2 h2 => ?_⟩
  obtain ⟨rfl, h2⟩ := h2
  exact ⟨h.trans ((q_heard F b11 b12 x1).trans h2.symm), A⟩
