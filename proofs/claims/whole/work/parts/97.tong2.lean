theorem mTell_J {v : uM} {nS nW : Nat} {e : Int32} (hS : nS ≤ 6) : (mTell v nS nW e).1 252 0 = nI nS ∧ (mTell v nS nW e).1 252 1 = nI nW ∧ (mTell v nS nW e).1 252 2 = e ∧ (mTell v nS nW e).1 252 3 = v.1 252 3 ∧ (mTell v nS nW e).1 252 4 = 0 ∧ (mTell v nS nW e).1 252 5 = v.1 252 5 ∧ (mTell v nS nW e).1 252 6 = 0
    ∧ (∀ i, i < nS → ((mTell v nS nW e).1 252 (7 + 10 * i) = v.1 254 (8 * i) ∧ (mTell v nS nW e).1 252 (7 + 10 * i + 1) = v.1 254 (8 * i + 1) ∧ (mTell v nS nW e).1 252 (7 + 10 * i + 2) = 0 ∧ (mTell v nS nW e).1 252 (7 + 10 * i + 3) = 0) ∧ ∀ j, j < 6 → (mTell v nS nW e).1 252 (7 + 10 * i + 4 + j) = v.1 254 (8 * i + 2 + j))
    ∧ (∀ i, i < nW → (mTell v nS nW e).1 252 (67 + 2 * i) = v.1 255 i ∧ (mTell v nS nW e).1 252 (67 + 2 * i + 1) = 0)
    ∧ (∀ c, c ≠ 251 → c ≠ 252 → (mTell v nS nW e).1 c = v.1 c) ∧ (mTell v nS nW e).1 251 8 = 0 ∧ (∀ j, j ≠ 8 → (mTell v nS nW e).1 251 j = v.1 251 j) ∧ (mTell v nS nW e).2 = v.2 := by
  unfold mTell
  obtain ⟨w1, w2, w3, w4, w5⟩ := mTw_at (v := mTs (uSet (uSet v 252 0 0) 252 1 0) nS) nW
  have w0 := mTw_1 (v := mTs (uSet (uSet v 252 0 0) 252 1 0) nS) ((mTs_1 nS).trans u_set_at) nW
  obtain ⟨s1, s2⟩ := mTs_at (v := uSet (uSet v 252 0 0) 252 1 0) nS
  obtain ⟨q1, q2⟩ := mTs_251 (v := uSet (uSet v 252 0 0) 252 1 0) nS
  have s0 := mTs_0 (v := uSet (uSet v 252 0 0) 252 1 0) ((u_set_by (by decide)).trans u_set_at) nS
  have sf : ∀ c, c ≠ 251 → c ≠ 252 → (mTs (uSet (uSet v 252 0 0) 252 1 0) nS).1 c = v.1 c := fun c h1 h2 => by rw [mTs_far h2 h1, u_set_far h2, u_set_far h2]
  have f254 : (uSet (uSet v 252 0 0) 252 1 0).1 254 = v.1 254 := by rw [u_set_far (by decide), u_set_far (by decide)]
  rw [f254] at s1
  rw [sf 255 (by decide) (by decide)] at w1
  generalize mTs (uSet (uSet v 252 0 0) 252 1 0) nS = B at *
  generalize mTw B nW = C at *
  have far7 : ∀ j, 7 ≤ j → (uSet (uSet (uSet (uSet C 252 2 e) 252 4 0) 252 6 0) 251 8 0).1 252 j = C.1 252 j := fun j hj => by
    rw [u_set_far (by decide), u_set_by (by omega), u_set_by (by omega), u_set_by (by omega)]
  refine ⟨?_, ?_, ?_, ?_, ?_, ?_, ?_, fun i hi => ?_, fun i hi => ?_, fun c h1 h2 => ?_, u_set_at, fun j hj => ?_, ?_⟩
  · rw [u_set_far (by decide), u_set_by (by decide), u_set_by (by decide), u_set_by (by decide), w2 0 (by decide) (by decide), s0]
  · rw [u_set_far (by decide), u_set_by (by decide), u_set_by (by decide), u_set_by (by decide), w0]
  · rw [u_set_far (by decide), u_set_by (by decide), u_set_by (by decide), u_set_at]
  · rw [u_set_far (by decide), u_set_by (by decide), u_set_by (by decide), u_set_by (by decide), w2 3 (by decide) (by decide), s2 3 (by decide) (by omega), u_set_by (by decide), u_set_by (by decide)]
  · rw [u_set_far (by decide), u_set_by (by decide), u_set_at]
  · rw [u_set_far (by decide), u_set_by (by decide), u_set_by (by decide), u_set_by (by decide), w2 5 (by decide) (by decide), s2 5 (by decide) (by omega), u_set_by (by decide), u_set_by (by decide)]
  · rw [u_set_far (by decide), u_set_at]
  · obtain ⟨⟨k1, k2, k3, k4⟩, k5⟩ := s1 i hi
    rw [far7 _ (by omega), far7 _ (by omega), far7 _ (by omega), far7 _ (by omega), w2 _ (by omega) (by omega), w2 _ (by omega) (by omega), w2 _ (by omega) (by omega), w2 _ (by omega) (by omega)]
    refine ⟨⟨k1, k2, k3, k4⟩, fun j hj => ?_⟩
    rw [far7 _ (by omega), w2 _ (by omega) (by omega)]
    exact k5 j hj
  · rw [far7 _ (by omega), far7 _ (by omega)]
    exact w1 i hi
  · rw [u_set_far h1, u_set_far h2, u_set_far h2, u_set_far h2, w3 c h1 h2, sf c h1 h2]
  · rw [u_set_by hj, u_set_far (by decide), u_set_far (by decide), u_set_far (by decide), w4 j hj, q1 j hj, u_set_far (by decide), u_set_far (by decide)]
  · show C.2 = v.2
    rw [w5, q2]; rfl
/-- the class has settled on what was read -/
theorem xSettle_at {V : uM} : (xSettle V 0).1 1 0 = V.1 157 0 ∧ (xSettle V 0).1 1 4 = V.1 157 4 ∧ (xSettle V 0).1 1 6 = V.1 157 6 ∧ (xSettle V 0).1 1 7 = V.1 1 7 ∧ (xSettle V 0).1 1 10 = V.1 157 10
    ∧ (∀ p, p < 6 → (xSettle V 0).1 2 p = V.1 158 p ∧ (xSettle V 0).1 3 p = V.1 159 p ∧ (xSettle V 0).1 5 p = V.1 161 p) ∧ (∀ j, j < 36 → (xSettle V 0).1 4 j = V.1 160 j)
    ∧ (xSettle V 0).1 7 4 = V.1 163 4 ∧ (xSettle V 0).1 7 5 = V.1 7 5 ∧ (∀ p, p < 6 → (xSettle V 0).1 8 p = V.1 164 p ∧ (xSettle V 0).1 9 p = V.1 165 p ∧ (xSettle V 0).1 10 p = V.1 166 p) ∧ (xSettle V 0).1 11 0 = V.1 167 0
    ∧ (∀ c, c < 1 ∨ 14 < c → (xSettle V 0).1 c = V.1 c) ∧ (xSettle V 0).2 = V.2 := by
  have hbo : (1 : Nat) + 78 ≤ 157 ∨ 157 + 78 ≤ (1 : Nat) := by decide
  obtain ⟨a0, a4, a6, a7, a10⟩ := fc_at (M := V) (b := 1) (o := 157) hbo
  obtain ⟨r1, r2⟩ := fc_rows (M := V) (b := 1) (o := 157) hbo
  have e : xSettle V 0 = uSet (uSet (xFordCp0 V 1 157) 1 7 (V.1 1 7)) 7 5 (V.1 7 5) := rfl
  have e2 : xFordCp0 V 1 157 = sSet (xMomCp (sSet (sSet (sRow (sSet (sRow (sRow (sRow (sSet V 1 157 0) (1 + 1) (157 + 1) 6) (1 + 2) (157 + 2) 6) (1 + 3) (157 + 3) 36) 1 157 4) (1 + 4) (157 + 4) 6) 1 157 6) 1 157 7) (1 + 6) (157 + 6)) 1 157 10 := rfl
  have far : ∀ c, 7 ≤ c → (sSet (sSet (sRow (sSet (sRow (sRow (sRow (sSet V 1 157 0) (1 + 1) (157 + 1) 6) (1 + 2) (157 + 2) 6) (1 + 3) (157 + 3) 36) 1 157 4) (1 + 4) (157 + 4) 6) 1 157 6) 1 157 7).1 c = V.1 c := fun c hc => by
    rw [sSet_far (by omega), sSet_far (by omega), sRow_far (by omega), sSet_far (by omega), sRow_far (by omega), sRow_far (by omega), sRow_far (by omega), sSet_far (by omega)]
  have mm : (xFordCp0 V 1 157).1 7 4 = V.1 163 4 ∧ (∀ p, p < 6 → (xFordCp0 V 1 157).1 8 p = V.1 164 p ∧ (xFordCp0 V 1 157).1 9 p = V.1 165 p ∧ (xFordCp0 V 1 157).1 10 p = V.1 166 p) ∧ (xFordCp0 V 1 157).1 11 0 = V.1 167 0 := by
    rw [e2, sSet_far (by decide), sSet_far (by decide), sSet_far (by decide), sSet_far (by decide), sSet_far (by decide)]
    generalize sSet (sSet (sRow (sSet (sRow (sRow (sRow (sSet V 1 157 0) (1 + 1) (157 + 1) 6) (1 + 2) (157 + 2) 6) (1 + 3) (157 + 3) 36) 1 157 4) (1 + 4) (157 + 4) 6) 1 157 6) 1 157 7 = X at *
    obtain ⟨f1, f2, f3, f4, f5⟩ := xMomCp_at (M := X) (q := 1 + 6) (r := 157 + 6) (by decide)
    refine ⟨f1.trans (by rw [far _ (by decide)]), fun p hp => ?_, f4.trans (by rw [far _ (by decide)])⟩
    obtain ⟨g1, g2, g3⟩ := f3 p hp
    exact ⟨g1.trans (by rw [far _ (by decide)]), g2.trans (by rw [far _ (by decide)]), g3.trans (by rw [far _ (by decide)])⟩
  have ff : ∀ c, c < 1 ∨ 14 < c → (xFordCp0 V 1 157).1 c = V.1 c := fun c hc => fc_far (by omega)
  have f2 : (xFordCp0 V 1 157).2 = V.2 := fc_2
  rw [e]
  generalize xFordCp0 V 1 157 = X at *
  refine ⟨?_, ?_, ?_, ?_, ?_, fun p hp => ?_, fun j hj => ?_, ?_, u_set_at, fun p hp => ?_, ?_, fun c hc => ?_, f2⟩
  · rw [u_set_far (by decide), u_set_by (by decide), a0]
  · rw [u_set_far (by decide), u_set_by (by decide), a4]
  · rw [u_set_far (by decide), u_set_by (by decide), a6]
  · rw [u_set_far (by decide), u_set_at]
  · rw [u_set_far (by decide), u_set_by (by decide), a10]
  · rw [u_set_far (by decide), u_set_far (by decide), u_set_far (by decide), u_set_far (by decide), u_set_far (by decide), u_set_far (by decide)]
    exact r1 p hp
  · rw [u_set_far (by decide), u_set_far (by decide)]
    exact r2 j hj
  · rw [u_set_by (by decide), u_set_far (by decide)]
    exact mm.1
  · rw [u_set_far (by decide), u_set_far (by decide), u_set_far (by decide), u_set_far (by decide), u_set_far (by decide), u_set_far (by decide)]
    exact mm.2.1 p hp
  · rw [u_set_far (by decide), u_set_far (by decide)]
    exact mm.2.2
  · rw [u_set_far (by omega), u_set_far (by omega)]
    exact ff c hc
