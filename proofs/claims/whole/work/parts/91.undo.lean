/-! undo -/
theorem rSnap_J2 {I : Nat → Nat → Int32} {q : Nat} {J J' : Nat → Int32} {n nw : Nat} (hn6 : n ≤ 6) (hnw6 : nw ≤ 6) (e4 : ∀ a, 4 ≤ a → a < 7 → J' a = J a) (ep : ∀ p, p < n → J' (7 + 10 * p + 2) = J (7 + 10 * p + 2) ∧ J' (7 + 10 * p + 3) = J (7 + 10 * p + 3)) (ew : ∀ a, 67 ≤ a → a < 115 → J' a = J a) (R : rSnap I q J n nw) : rSnap I q J' n nw := by
  obtain ⟨a1, a2, ⟨h, a3, a4⟩, ⟨b, b1, b2, b3, b4⟩, c1, d1⟩ := R
  have k4 := e4 4 (by decide) (by decide)
  have k5 := e4 5 (by decide) (by decide)
  have k6 := e4 6 (by decide) (by decide)
  refine ⟨a1.trans k4.symm, a2.trans k5.symm, ⟨h, a3, k4.trans a4⟩, ⟨b, b1, b2, k6.trans b3, fun e he => ?_⟩, fun p hp => ?_, fun w hw => ?_⟩
  · rw [ew (79 + 3 * e) (by omega) (by omega), ew (79 + 3 * e + 1) (by omega) (by omega), ew (79 + 3 * e + 2) (by omega) (by omega)]
    exact b4 e he
  · rw [(ep p hp).1, (ep p hp).2]
    exact c1 p hp
  · rw [ew (67 + 2 * w + 1) (by omega) (by omega), rCnt_congr n (fun p hp => (ep p hp).1)]
    exact d1 w hw
theorem und_far (M : uM) (f : Nat) {c : Nat} (hc : c ≠ 252) : ∀ i, (mUnd2 M f i).1 c = M.1 c := by
  intro i
  induction i with
  | zero => rfl
  | succ i ih =>
    have e : mUnd2 M f (i + 1) = uSet (uSet (mUnd2 M f i) 252 (7 + 10 * i + 2) ((mUnd2 M f i).1 256 (f + 7 + 10 * i + 2))) 252 (7 + 10 * i + 3) ((uSet (mUnd2 M f i) 252 (7 + 10 * i + 2) ((mUnd2 M f i).1 256 (f + 7 + 10 * i + 2))).1 256 (f + 7 + 10 * i + 3)) := rfl
    rw [e, u_set_far hc, u_set_far hc, ih]
theorem und_2 (M : uM) (f : Nat) : ∀ i, (mUnd2 M f i).2 = M.2 := by
  intro i
  induction i with
  | zero => rfl
  | succ i ih => exact ih
theorem und_at (M : uM) (f : Nat) : ∀ i, (∀ p, p < i → (mUnd2 M f i).1 252 (7 + 10 * p + 2) = M.1 256 (f + 7 + 10 * p + 2) ∧ (mUnd2 M f i).1 252 (7 + 10 * p + 3) = M.1 256 (f + 7 + 10 * p + 3)) ∧ ∀ j, (∀ p, p < i → j ≠ 7 + 10 * p + 2 ∧ j ≠ 7 + 10 * p + 3) → (mUnd2 M f i).1 252 j = M.1 252 j := by
  intro i
  induction i with
  | zero => exact ⟨fun p hp => absurd hp (Nat.not_lt_zero p), fun _ _ => rfl⟩
  | succ i ih =>
    obtain ⟨i1, i2⟩ := ih
    have e : mUnd2 M f (i + 1) = uSet (uSet (mUnd2 M f i) 252 (7 + 10 * i + 2) ((mUnd2 M f i).1 256 (f + 7 + 10 * i + 2))) 252 (7 + 10 * i + 3) ((uSet (mUnd2 M f i) 252 (7 + 10 * i + 2) ((mUnd2 M f i).1 256 (f + 7 + 10 * i + 2))).1 256 (f + 7 + 10 * i + 3)) := rfl
    rw [e]
    refine ⟨fun p hp => ?_, fun j hj => ?_⟩
    · by_cases z : p = i
      · subst z
        rw [u_set_by (by omega), u_set_at, u_set_at, u_set_far (by decide), und_far M f (by decide)]
        exact ⟨rfl, rfl⟩
      · rw [u_set_by (by omega), u_set_by (by omega), u_set_by (by omega), u_set_by (by omega)]
        exact i1 p (by omega)
    · have := hj i (by omega)
      rw [u_set_by this.2, u_set_by this.1]
      exact i2 j (fun p hp => hj p (by omega))
theorem mUndo_c {M : uM} {k c : Nat} (h1 : c ≠ 251) (h2 : c ≠ 252) : (mUndo M k).1 c = M.1 c := by
  unfold mUndo
  rw [u_row_far h2, und_far _ _ h2, u_row_far h2, u_set_far h1]
theorem mUndo_251 {M : uM} {k : Nat} : (mUndo M k).1 251 8 = nI (k - 1) ∧ ∀ j, j ≠ 8 → (mUndo M k).1 251 j = M.1 251 j := by
  unfold mUndo
  rw [u_row_far (by decide), und_far _ _ (by decide), u_row_far (by decide)]
  exact ⟨u_set_at, fun j hj => u_set_by hj⟩
theorem u_row_2 (M : uM) (k : Nat) (r : Nat → Int32) : (uRow M k r).2 = M.2 := rfl
theorem mUndo_2 (M : uM) (k : Nat) : (mUndo M k).2 = M.2 := by
  unfold mUndo
  rw [u_row_2, und_2, u_row_2, u_set2]
theorem mUndo_J {M : uM} {k : Nat} : (∀ a, 4 ≤ a → a < 7 → (mUndo M k).1 252 a = M.1 256 (115 * (k - 1) + a)) ∧ (∀ p, p < 6 → (mUndo M k).1 252 (7 + 10 * p + 2) = M.1 256 (115 * (k - 1) + (7 + 10 * p + 2)) ∧ (mUndo M k).1 252 (7 + 10 * p + 3) = M.1 256 (115 * (k - 1) + (7 + 10 * p + 3))) ∧ (∀ a, 67 ≤ a → a < 115 → (mUndo M k).1 252 a = M.1 256 (115 * (k - 1) + a)) ∧ (∀ a, a < 4 → (mUndo M k).1 252 a = M.1 252 a) ∧ ∀ p j, p < 6 → j < 2 ∨ (4 ≤ j ∧ j < 10) → (mUndo M k).1 252 (7 + 10 * p + j) = M.1 252 (7 + 10 * p + j) := by
  unfold mUndo
  obtain ⟨d1, d2⟩ := und_at (uRow (uSet M 251 8 (nI (k - 1))) 252 (va_cpy ((uSet M 251 8 (nI (k - 1))).1 256) ((uSet M 251 8 (nI (k - 1))).1 252) (115 * (k - 1) + 4) 4 3)) (115 * (k - 1)) 6
  refine ⟨fun a h1 h2 => ?_, fun p hp => ⟨?_, ?_⟩, fun a h1 h2 => ?_, fun a h1 => ?_, fun p j hp hj => ?_⟩
  · rw [u_row_at, pk_cpy_out (Or.inl (by omega)), d2 a (fun p hp => by omega), u_row_at, pk_cpy_in (by omega) (by omega), u_set_far (by decide)]
    exact congrArg (M.1 256) (by omega)
  · rw [u_row_at, pk_cpy_out (Or.inl (by omega)), (d1 p hp).1, u_row_far (by decide), u_set_far (by decide)]
    exact congrArg (M.1 256) (by omega)
  · rw [u_row_at, pk_cpy_out (Or.inl (by omega)), (d1 p hp).2, u_row_far (by decide), u_set_far (by decide)]
    exact congrArg (M.1 256) (by omega)
  · rw [u_row_at, pk_cpy_in (by omega) (by omega), und_far _ _ (by decide), u_row_far (by decide), u_set_far (by decide)]
    exact congrArg (M.1 256) (by omega)
  · rw [u_row_at, pk_cpy_out (Or.inl (by omega)), d2 a (fun p hp => by omega), u_row_at, pk_cpy_out (Or.inl (by omega)), u_set_far (by decide)]
  · rw [u_row_at, pk_cpy_out (Or.inl (by omega)), d2 _ (fun q hq => by omega), u_row_at, pk_cpy_out (Or.inr (by omega)), u_set_far (by decide)]
theorem s_undo {M : uM} {n nw k : Nat} (F : rFord M.1 1 (M.1 252) n nw) (P : rPast M 1 (M.1 256) k n nw) (R : rRest M) (hk0 : 0 < k) : rAll (mUndo (xBack M k) k) ∧ (xBack M k).1 1 10 = nI (k - 1) ∧ (xBack M k).1 251 = M.1 251 := by
  have hn6 := F.1.1
  have hnw6 := F.1.2.1
  have O := R.2.2.2
  obtain ⟨P1, P2, P3⟩ := P
  obtain ⟨O1, O2⟩ := O.1 1 (Or.inl rfl)
  obtain ⟨qk, k1, k2, k3⟩ := O1 (k - 1) (by omega)
  have k3' : M.2.2 6 (k - 1) = 7 + 8 * qk := k3
  have afar : ∀ c, c < 7 ∨ 14 < c → c ≠ 1 → (xBack M k).1 c = M.1 c := fun c hc h1 => by
    unfold xBack
    rw [xMomCp_far (by omega), u_set_far h1]
  have a1 : ∀ j, j ≠ 10 → (xBack M k).1 1 j = M.1 1 j := fun j hj => by
    unfold xBack
    rw [xMomCp_far (by omega), u_set_by hj]
  have a10 : (xBack M k).1 1 10 = nI (k - 1) := by
    unfold xBack
    rw [xMomCp_far (by omega), u_set_at]
  have a2 : (xBack M k).2 = M.2 := rfl
  have aS : rSnap (xBack M k).1 7 (fun a => M.1 256 (115 * (k - 1) + a)) n nw := by
    refine rSnap_cp hn6 hnw6 (by omega) (rSnap_congr (I := M.1) (fun j hj => u_set_far (by omega)) ?_)
    exact (P3 (k - 1) (by omega)).1
  obtain ⟨m1, m2, m3, m4, m5⟩ := mUndo_J (M := xBack M k) (k := k)
  have e256 := afar 256 (by omega) (by omega)
  have e252 := afar 252 (by omega) (by omega)
  have e251 := afar 251 (by omega) (by omega)
  rw [e256] at m1 m2 m3
  rw [e252] at m4 m5
  obtain ⟨v8, vj⟩ := mUndo_251 (M := xBack M k) (k := k)
  rw [e251] at vj
  have uc : ∀ c, c ≠ 251 → c ≠ 252 → (mUndo (xBack M k) k).1 c = (xBack M k).1 c := fun c h1 h2 => mUndo_c h1 h2
  have ufar : ∀ c, c < 7 ∨ 14 < c → c ≠ 1 → c ≠ 251 → c ≠ 252 → (mUndo (xBack M k) k).1 c = M.1 c := fun c hc h1 h2 h3 => (uc c h2 h3).trans (afar c hc h1)
  have u1 : ∀ j, j ≠ 10 → (mUndo (xBack M k) k).1 1 j = M.1 1 j := fun j hj => by rw [uc 1 (by decide) (by decide), a1 j hj]
  have u2 : (mUndo (xBack M k) k).2 = M.2 := (mUndo_2 _ k).trans a2
  have F' : rFord (mUndo (xBack M k) k).1 1 ((mUndo (xBack M k) k).1 252) n nw := by
    refine rFord_mom F ⟨u1 0 (by decide), u1 4 (by decide), u1 6 (by decide), u1 7 (by decide)⟩ ⟨ufar 2 (by decide) (by decide) (by decide) (by decide), ufar 3 (by decide) (by decide) (by decide) (by decide), ufar 4 (by decide) (by decide) (by decide) (by decide), ufar 5 (by decide) (by decide) (by decide) (by decide)⟩ m4 m5 (fun w hw => ?_) ?_
    · rw [m3 _ (by omega) (by omega), (P3 (k - 1) (by omega)).2 w hw]
      exact (F.2.2.2.1 w hw).1
    · exact rSnap_congr (I := (xBack M k).1) (fun j hj => uc _ (by omega) (by omega)) (rSnap_J2 hn6 hnw6 m1 (fun p hp => m2 p (by omega)) m3 aS)
  have O' : rOwn (mUndo (xBack M k) k) := rOwn_2 (by rw [u2]) (ufar 157 (by decide) (by decide) (by decide) (by decide)) (ufar 163 (by decide) (by decide) (by decide) (by decide)) (ufar 167 (by decide) (by decide) (by decide) (by decide)) O
  have R' := rRest_far (u := mUndo (xBack M k) k) (by rw [u2]) (by rw [u2]) (fun c h h1 h2 h3 => ufar c (by omega) (by omega) h1 h2) ⟨vj 2 (by decide), vj 11 (by decide), vj 12 (by decide)⟩ (ufar 0 (by decide) (by decide) (by decide) (by decide)) O' R
  refine ⟨⟨⟨n, nw, k - 1, F', ⟨by omega, ?_, fun i hi => ?_⟩, v8⟩, R'.1, R'.2.1, R'.2.2.1, R'.2.2.2⟩, a10, e251⟩
  · rw [uc 1 (by decide) (by decide)]; exact a10
  · rw [ufar 256 (by decide) (by decide) (by decide) (by decide), u2, ufar (1 + 4) (by decide) (by decide) (by decide) (by decide)]
    obtain ⟨q, q1, q2, q3⟩ := O1 i (by omega)
    refine ⟨rSnap_congr (I := M.1) (fun j hj => ufar _ (by omega) (by omega) (by omega) (by omega)) (P3 i (by omega)).1, (P3 i (by omega)).2⟩
