/-! copy, tongues -/
theorem w_val {M : uM} {s : Nat} (h : 0 ≤ M.1 259 s) (lane i m : Int32) : mWhyS M s lane i m = if M.1 259 s = lane then (if 0 ≤ i.toInt ∧ 0 ≤ m.toInt ∧ i.toInt + m.toInt ≤ (M.1 260 s).toInt then 0 else -13) else -12 := by
  unfold mWhyS
  rw [if_pos h]
  have e : (¬ i < 0 ∧ ¬ m < 0 ∧ i.toInt64 + m.toInt64 ≤ (M.1 260 s).toInt64) ↔ (0 ≤ i.toInt ∧ 0 ≤ m.toInt ∧ i.toInt + m.toInt ≤ (M.1 260 s).toInt) := by
    rw [Int32.lt_iff_toInt_lt, Int32.lt_iff_toInt_lt, Int64.le_iff_toInt_le, u_add64, u_w]
    have z0 : (0 : Int32).toInt = 0 := rfl
    omega
  by_cases c : M.1 259 s = lane
  · rw [if_pos c, if_pos c]
    by_cases d : 0 ≤ i.toInt ∧ 0 ≤ m.toInt ∧ i.toInt + m.toInt ≤ (M.1 260 s).toInt
    · rw [if_pos d, if_pos (e.mpr d)]
    · rw [if_neg d, if_neg (fun z => d (e.mp z))]
  · rw [if_neg c, if_neg c]
theorem w_lane {M : uM} {s : Nat} (S : rSheet M s) : (M.1 (243 + 2 * s) 0 = 0 ↔ ¬ 0 ≤ M.1 259 s) ∧ (0 ≤ M.1 259 s → M.1 (243 + 2 * s) 1 = M.1 259 s) := by
  rcases S.1 with ⟨z1, z2⟩ | ⟨z1, z2, l', hl, el⟩
  · have : ¬ (0 : Int32) ≤ M.1 259 s := by rw [z2]; decide
    exact ⟨⟨fun _ => this, fun _ => z1⟩, fun z => absurd z this⟩
  · have : (0 : Int32) ≤ M.1 259 s := by rw [el]; exact nI_pos' (by omega)
    exact ⟨⟨fun z => by rw [z1] at z; exact absurd z (by decide), fun z => absurd this z⟩, fun _ => z2⟩
theorem z6_copy (l : Launch) (E : uE) (hI : uI E) (M : uM) (A : rAll M) (x1 : Int32) (x2 : Int32) (x3 : Int32) (x4 : Int32) (x5 : Int32) : zC l E M yX6_copy wsX6_copy ({ frames := 2, cells := 0, slots := 0, locals := 42 }) yX7_copy wsX7_copy ({ frames := 2, cells := 0, slots := 0, locals := 45 }) [.int x1, .int x2, .int x3, .int x4, .int x5] := by
  obtain ⟨n, nw, k, F, P, hk, R⟩ := rAll_get A
  obtain ⟨⟨a0, n6, a4, w6⟩, ⟨j0, j1⟩, t6, t7⟩ := z_f F
  refine ⟨_, k_X6_copy l E hI M x1 x2 x3 x4 x5 (z_sz A).1, fun r1 u1 h => ?_⟩
  by_cases c : (0 ≤ x1.toInt ∧ x1.toInt ≤ 3) ∧ (0 ≤ x3.toInt ∧ x3.toInt ≤ 3)
  · rw [if_pos c] at h
    obtain ⟨p1, -⟩ := u_tn (x := x1) (n := 4) ⟨c.1.1, by omega⟩ (by omega)
    obtain ⟨p3, -⟩ := u_tn (x := x3) (n := 4) ⟨c.2.1, by omega⟩ (by omega)
    have S1 := A.2.2.2.1 (tn x1) p1
    have S3 := A.2.2.2.1 (tn x3) p3
    obtain ⟨g1, g2⟩ := w_lane S1
    obtain ⟨g3, g4⟩ := w_lane S3
    by_cases d : 0 ≤ M.1 259 (tn x1) ∧ 0 ≤ M.1 259 (tn x3)
    · rw [if_neg (fun z => z.elim (fun z => g1.mp z d.1) (fun z => g3.mp z d.2)), g2 d.1, g4 d.2, S1.2.1, S3.2.1] at h
      have v3 := w_val d.2 (M.1 259 (tn x1)) x4 x5
      have v1 := w_val d.1 (M.1 259 (tn x1)) x2 x5
      rw [if_pos rfl] at v1
      by_cases q : M.1 259 (tn x1) = M.1 259 (tn x3)
      · rw [if_pos q] at h
        rw [if_pos q.symm] at v3
        by_cases w : (0 ≤ x2.toInt ∧ 0 ≤ x5.toInt ∧ x2.toInt + x5.toInt ≤ (M.1 260 (tn x1)).toInt) ∧ (0 ≤ x4.toInt ∧ 0 ≤ x5.toInt ∧ x4.toInt + x5.toInt ≤ (M.1 260 (tn x3)).toInt)
        · rw [if_pos w] at h
          rw [if_pos w.1] at v1
          rw [if_pos w.2] at v3
          obtain ⟨hu, hr⟩ := h
          have e1 : u1.1 = M.1 := by rw [hu]; rfl
          refine ⟨_, k_X7_copy l E hI u1 x1 x2 x3 x4 x5 (by rw [e1]; exact (z_sz A).2), fun r2 u2 h2 => ?_⟩
          have ew : mWhyS u1 = mWhyS M := by funext s lane i m; unfold mWhyS; rw [e1]
          rw [if_pos c, ew, e1, if_pos d, if_pos ⟨v3, by rw [v1]; decide⟩] at h2
          obtain ⟨hu2, hr2⟩ := h2
          refine ⟨hr.trans hr2.symm, ?_⟩
          obtain ⟨z, hz, ez⟩ := S1.2.2.1
          obtain ⟨y, hy, ey⟩ := S3.2.2.1
          rw [ez, ey, nI_toInt (by omega), nI_toInt (by omega)] at w
          have t2 : (tn x2 : Int) = x2.toInt := tn_int w.1.1
          have t4 : (tn x4 : Int) = x4.toInt := tn_int w.2.1
          have t5 : (tn x5 : Int) = x5.toInt := tn_int w.1.2.1
          rw [hu2, hu]
          exact s_copy A p1 p3 (by omega) (by omega)
        · rw [if_neg w] at h
          obtain ⟨hr, rfl⟩ := h
          refine ⟨_, k_X7_copy l E hI M x1 x2 x3 x4 x5 (z_sz A).2, fun r2 u2 h2 => ?_⟩
          rw [if_pos c, if_pos d] at h2
          by_cases w3 : 0 ≤ x4.toInt ∧ 0 ≤ x5.toInt ∧ x4.toInt + x5.toInt ≤ (M.1 260 (tn x3)).toInt
          · rw [if_pos w3] at v3
            rw [if_neg (fun z => w ⟨z, w3⟩)] at v1
            rw [if_neg (fun z => by rw [v1] at z; exact absurd z.2 (by decide)), if_pos v3, v1] at h2
            obtain ⟨hr2, rfl⟩ := h2
            exact ⟨hr.trans hr2.symm, A⟩
          · rw [if_neg w3] at v3
            rw [if_neg (fun z => by rw [v3] at z; exact absurd z.1 (by decide)), if_neg (by rw [v3]; decide), v3] at h2
            obtain ⟨hr2, rfl⟩ := h2
            exact ⟨hr.trans hr2.symm, A⟩
      · rw [if_neg q] at h
        rw [if_neg (fun z => q z.symm)] at v3
        obtain ⟨hr, rfl⟩ := h
        refine ⟨_, k_X7_copy l E hI M x1 x2 x3 x4 x5 (z_sz A).2, fun r2 u2 h2 => ?_⟩
        rw [if_pos c, if_pos d, if_neg (fun z => by rw [v3] at z; exact absurd z.1 (by decide)), if_neg (by rw [v3]; decide), v3] at h2
        obtain ⟨hr2, rfl⟩ := h2
        exact ⟨hr.trans hr2.symm, A⟩
    · rw [if_pos (by
        by_cases d1 : 0 ≤ M.1 259 (tn x1)
        · exact Or.inr (g3.mpr (fun z => d ⟨d1, z⟩))
        · exact Or.inl (g1.mpr d1))] at h
      obtain ⟨hr, rfl⟩ := h
      refine ⟨_, k_X7_copy l E hI M x1 x2 x3 x4 x5 (z_sz A).2, fun r2 u2 h2 => ?_⟩
      rw [if_pos c, if_neg d] at h2
      obtain ⟨hr2, rfl⟩ := h2
      exact ⟨hr.trans hr2.symm, A⟩
  · rw [if_neg c] at h
    obtain ⟨hr, rfl⟩ := h
    refine ⟨_, k_X7_copy l E hI M x1 x2 x3 x4 x5 (z_sz A).2, fun r2 u2 h2 => ?_⟩
    rw [if_neg c] at h2
    obtain ⟨hr2, rfl⟩ := h2
    exact ⟨hr.trans hr2.symm, A⟩
theorem z6_tongues (l : Launch) (E : uE) (hI : uI E) (S : uS) (M : uM) (A : rAll M) : ∃ Q1 : Int32 → uM → Prop, Met l yX6_tongues wsX6_tongues ({ frames := 8, cells := 0, slots := 0, locals := 180 }) (va_Pc [.ref (E.2.1 0)] (uBt E S M)) (va_Qi Q1 (uP E) (uA E)) 0 0 (uA E) ∧ ∀ r1 u1, Q1 r1 u1 → ∃ Q2 : Int32 → uM → Prop, Met l yX7_tongues wsX7_tongues ({ frames := 3, cells := 0, slots := 0, locals := 73 }) (va_Pc [.ref (E.2.1 251)] (uB E u1)) (va_Qi Q2 (uP E) (uA E)) 0 0 (uA E) ∧ ∀ r2 u2, Q2 r2 u2 → r1 = r2 ∧ rAll u2 := by
  obtain ⟨n, nw, k, F, P, hk, R⟩ := rAll_get A
  obtain ⟨ty, T⟩ := R.2.1
  obtain ⟨T1, T2, T3, T4⟩ := id T
  have hch : ∀ i, i < ty → narrow .char (.int (M.1 241 i)) = .int (M.1 241 i) := fun i hi => by
    obtain ⟨e1, b, b1, b2, b3⟩ := T4 i hi
    rw [e1, b3]
    have : ∀ b : Fin 128, narrow .char (.int (nI b.val)) = .int (nI b.val) := by decide +kernel
    exact this ⟨b, by omega⟩
  have zp := z_p R.2.2.2
  refine ⟨_, k_X6_tongues l E hI S M ty T2 T1 hch R.2.2.2.2.1 zp.1 zp.2.2.2, fun r1 u1 h => ?_⟩
  obtain ⟨e251, e253, key⟩ := z_tongues F P hk R T h
  exact ⟨_, k_X7_tongues l E hI u1 ty (by rw [e251]; exact T3) T1 (fun i hi => by rw [e253]; obtain ⟨-, b, b1, b2, b3⟩ := T4 i hi; exact ⟨b, by omega, b3⟩), fun r2 u2 h2 => key r2 u2 h2⟩
