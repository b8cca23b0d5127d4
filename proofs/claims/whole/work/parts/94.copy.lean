/-! a ford that becomes like another -/
theorem rFord_J {I : Nat → Nat → Int32} {f : Nat} {J J' : Nat → Int32} {n nw : Nat} (e : ∀ a, a < 115 → J' a = J a) (F : rFord I f J n nw) : rFord I f J' n nw :=
  rFord_mom F ⟨rfl, rfl, rfl, rfl⟩ ⟨rfl, rfl, rfl, rfl⟩ (fun a ha => e a (by omega)) (fun p j hp hj => e _ (by omega)) (fun w hw => e _ (by have := F.1.2.1; omega)) (rSnap_J F.1.1 F.1.2.1 e F.2.2.2.2)
theorem sSet_far {M : uM} {b o j c : Nat} (h : c ≠ b) : (sSet M b o j).1 c = M.1 c := u_set_far h
theorem sSet_at {M : uM} {b o j : Nat} : (sSet M b o j).1 b j = M.1 o j := u_set_at
theorem sSet_by {M : uM} {b o j i : Nat} (h : i ≠ j) : (sSet M b o j).1 b i = M.1 b i := u_set_by h
theorem sRow_far {M : uM} {b o n c : Nat} (h : c ≠ b) : (sRow M b o n).1 c = M.1 c := u_row_far h
theorem sRow_at {M : uM} {b o n j : Nat} (h : j < n) : (sRow M b o n).1 b j = M.1 o j := by
  unfold sRow
  rw [u_row_at, cp0 h]
section FC
variable {M : uM} {b o : Nat}
theorem fc_far {c : Nat} (h : c < b ∨ b + 13 < c) : (xFordCp0 M b o).1 c = M.1 c := by
  unfold xFordCp0
  rw [sSet_far (by omega), xMomCp_far (by omega), sSet_far (by omega), sSet_far (by omega), sRow_far (by omega), sSet_far (by omega), sRow_far (by omega), sRow_far (by omega), sRow_far (by omega), sSet_far (by omega)]
theorem fc_at (h : b + 78 ≤ o ∨ o + 78 ≤ b) : (xFordCp0 M b o).1 b 0 = M.1 o 0 ∧ (xFordCp0 M b o).1 b 4 = M.1 o 4 ∧ (xFordCp0 M b o).1 b 6 = M.1 o 6 ∧ (xFordCp0 M b o).1 b 7 = M.1 o 7 ∧ (xFordCp0 M b o).1 b 10 = M.1 o 10 := by
  unfold xFordCp0
  refine ⟨?_, ?_, ?_, ?_, ?_⟩
  · rw [sSet_by (by decide), xMomCp_far (by omega), sSet_by (by decide), sSet_by (by decide), sRow_far (by omega), sSet_by (by decide), sRow_far (by omega), sRow_far (by omega), sRow_far (by omega), sSet_at]
  · rw [sSet_by (by decide), xMomCp_far (by omega), sSet_by (by decide), sSet_by (by decide), sRow_far (by omega), sSet_at, sRow_far (by omega), sRow_far (by omega), sRow_far (by omega), sSet_far (by omega)]
  · rw [sSet_by (by decide), xMomCp_far (by omega), sSet_by (by decide), sSet_at, sRow_far (by omega), sSet_far (by omega), sRow_far (by omega), sRow_far (by omega), sRow_far (by omega), sSet_far (by omega)]
  · rw [sSet_by (by decide), xMomCp_far (by omega), sSet_at, sSet_far (by omega), sRow_far (by omega), sSet_far (by omega), sRow_far (by omega), sRow_far (by omega), sRow_far (by omega), sSet_far (by omega)]
  · rw [sSet_at, xMomCp_far (by omega), sSet_far (by omega), sSet_far (by omega), sRow_far (by omega), sSet_far (by omega), sRow_far (by omega), sRow_far (by omega), sRow_far (by omega), sSet_far (by omega)]
theorem fc_rows (h : b + 78 ≤ o ∨ o + 78 ≤ b) : (∀ p, p < 6 → (xFordCp0 M b o).1 (b + 1) p = M.1 (o + 1) p ∧ (xFordCp0 M b o).1 (b + 2) p = M.1 (o + 2) p ∧ (xFordCp0 M b o).1 (b + 4) p = M.1 (o + 4) p) ∧ ∀ j, j < 36 → (xFordCp0 M b o).1 (b + 3) j = M.1 (o + 3) j := by
  unfold xFordCp0
  refine ⟨fun p hp => ⟨?_, ?_, ?_⟩, fun j hj => ?_⟩
  · rw [sSet_far (by omega), xMomCp_far (by omega), sSet_far (by omega), sSet_far (by omega), sRow_far (by omega), sSet_far (by omega), sRow_far (by omega), sRow_far (by omega), sRow_at hp, sSet_far (by omega)]
  · rw [sSet_far (by omega), xMomCp_far (by omega), sSet_far (by omega), sSet_far (by omega), sRow_far (by omega), sSet_far (by omega), sRow_far (by omega), sRow_at hp, sRow_far (by omega), sSet_far (by omega)]
  · rw [sSet_far (by omega), xMomCp_far (by omega), sSet_far (by omega), sSet_far (by omega), sRow_at hp, sSet_far (by omega), sRow_far (by omega), sRow_far (by omega), sRow_far (by omega), sSet_far (by omega)]
  · rw [sSet_far (by omega), xMomCp_far (by omega), sSet_far (by omega), sSet_far (by omega), sRow_far (by omega), sSet_far (by omega), sRow_at hj, sRow_far (by omega), sRow_far (by omega), sSet_far (by omega)]
theorem fc_snap {J : Nat → Int32} {n nw : Nat} (hn6 : n ≤ 6) (hnw6 : nw ≤ 6) (h : b + 78 ≤ o ∨ o + 78 ≤ b) (S : rSnap M.1 (o + 6) J n nw) : rSnap (xFordCp0 M b o).1 (b + 6) J n nw := by
  unfold xFordCp0
  refine rSnap_congr (fun j hj => sSet_far (by omega)) (rSnap_cp hn6 hnw6 (by omega) (rSnap_congr (I := M.1) (fun j hj => ?_) S))
  rw [sSet_far (by omega), sSet_far (by omega), sRow_far (by omega), sSet_far (by omega), sRow_far (by omega), sRow_far (by omega), sRow_far (by omega), sSet_far (by omega)]
theorem fc_2 : (xFordCp0 M b o).2 = M.2 := rfl
theorem fc_ford {J : Nat → Int32} {n nw : Nat} (h : b + 78 ≤ o ∨ o + 78 ≤ b) (F : rFord M.1 o J n nw) : rFord (xFordCp0 M b o).1 b J n nw := by
  obtain ⟨f0, f4, f6, f7, f10⟩ := fc_at (M := M) h
  obtain ⟨g1, g2⟩ := fc_rows (M := M) h
  have hn6 := F.1.1
  have hnw6 := F.1.2.1
  refine ⟨by rw [f0, f4]; exact F.1, by rw [f6, f7]; exact F.2.1, fun p hp => ?_, fun w hw => ?_, fc_snap hn6 hnw6 h F.2.2.2.2⟩
  · rw [(g1 p (by omega)).1, (g1 p (by omega)).2.1]
    refine ⟨(F.2.2.1 p hp).1, (F.2.2.1 p hp).2.1, fun s hs => ?_⟩
    rw [g2 _ (by omega)]
    exact (F.2.2.1 p hp).2.2 s hs
  · rw [(g1 w (by omega)).2.2]
    exact F.2.2.2.1 w hw
/-- the past, one after the other -/
theorem bl_far (Ob : ∀ i, i < 8 → ∃ q, 1 ≤ q ∧ q ≤ 8 ∧ M.2.2 (b + 5) i = b + 6 + 8 * q) {c : Nat} (h : c < b + 14 ∨ b + 78 ≤ c) : ∀ i, i ≤ 8 → (xBL M b o i).1 c = M.1 c := by
  intro i
  induction i with
  | zero => intro _; rfl
  | succ i ih =>
    intro hi
    have e : xBL M b o (i + 1) = xMomCp (xBL M b o i) ((xBL M b o i).2.2 (b + 5) i) ((xBL M b o i).2.2 (o + 5) i) := rfl
    rw [e, xBL_2]
    obtain ⟨q, q1, q2, q3⟩ := Ob i (by omega)
    rw [xMomCp_far (by omega), ih (by omega)]
theorem bl_snap {U : Nat → Int32} {n nw k : Nat} (hn6 : n ≤ 6) (hnw6 : nw ≤ 6) (hbo : b + 78 ≤ o ∨ o + 78 ≤ b) (hk : k ≤ 8) (Ob : ∀ i, i < 8 → ∃ q, 1 ≤ q ∧ q ≤ 8 ∧ M.2.2 (b + 5) i = b + 6 + 8 * q) (Ob2 : ∀ i j, i < 8 → j < 8 → M.2.2 (b + 5) i = M.2.2 (b + 5) j → i = j) (Oo : ∀ i, i < 8 → ∃ q, 1 ≤ q ∧ q ≤ 8 ∧ M.2.2 (o + 5) i = o + 6 + 8 * q)
    (P : ∀ i, i < k → rSnap M.1 (M.2.2 (o + 5) i) (fun a => U (115 * i + a)) n nw) : ∀ m, m ≤ k → ∀ i, i < m → rSnap (xBL M b o m).1 (M.2.2 (b + 5) i) (fun a => U (115 * i + a)) n nw := by
  intro m
  induction m with
  | zero => intro _ i hi; exact absurd hi (Nat.not_lt_zero i)
  | succ m ih =>
    intro hm i hi
    have e : xBL M b o (m + 1) = xMomCp (xBL M b o m) ((xBL M b o m).2.2 (b + 5) m) ((xBL M b o m).2.2 (o + 5) m) := rfl
    rw [e, xBL_2]
    obtain ⟨q, q1, q2, q3⟩ := Ob m (by omega)
    obtain ⟨q', q1', q2', q3'⟩ := Oo m (by omega)
    by_cases z : i = m
    · subst z
      refine rSnap_cp hn6 hnw6 (by omega) (rSnap_congr (I := M.1) (fun j hj => bl_far Ob (by omega) i (by omega)) (P i (by omega)))
    · obtain ⟨r, r1, r2, r3⟩ := Ob i (by omega)
      have hne : ¬ M.2.2 (b + 5) i = M.2.2 (b + 5) m := fun y => z (Ob2 i m (by omega) (by omega) y)
      exact rSnap_congr (I := (xBL M b o m).1) (fun j hj => xMomCp_far (by omega)) (ih (by omega) i (by omega))
/-- the whole ford -/
theorem cp_all {J U : Nat → Int32} {n nw k : Nat} (hb : b = 1 ∨ b = 79 ∨ b = 157) (ho : o = 1 ∨ o = 79 ∨ o = 157) (hne : b ≠ o) (O : rOwn M) (F : rFord M.1 o J n nw) (P : rPast M o U k n nw) : rFord (xFordCp M b o k).1 b J n nw ∧ rPast (xFordCp M b o k) b U k n nw ∧ (xFordCp M b o k).2 = M.2 ∧ ∀ c, c < b ∨ b + 78 ≤ c → (xFordCp M b o k).1 c = M.1 c := by
  have hbo : b + 78 ≤ o ∨ o + 78 ≤ b := by omega
  obtain ⟨Ob, Ob2⟩ := O.1 b hb
  obtain ⟨Oo, -⟩ := O.1 o ho
  obtain ⟨P1, P2, P3⟩ := P
  have hn6 := F.1.1
  have hnw6 := F.1.2.1
  have far : ∀ c, c < b + 14 ∨ b + 78 ≤ c → (xFordCp M b o k).1 c = (xFordCp0 M b o).1 c := fun c hc => bl_far (M := xFordCp0 M b o) Ob hc k P1
  have e2 : (xFordCp M b o k).2 = M.2 := xBL_2 _ b o k
  refine ⟨rFord_congr (I := (xFordCp0 M b o).1) (fun j hj => far _ (by omega)) (fc_ford hbo F), ⟨P1, ?_, fun i hi => ⟨?_, fun w hw => ?_⟩⟩, e2, fun c hc => (far c (by omega)).trans (fc_far (by omega))⟩
  · rw [far b (by omega), (fc_at hbo).2.2.2.2]
    exact P2
  · rw [e2]
    refine bl_snap (M := xFordCp0 M b o) hn6 hnw6 hbo P1 Ob Ob2 Oo (fun i hi => ?_) k (Nat.le_refl k) i hi
    obtain ⟨q, q1, q2, q3⟩ := Oo i (by omega)
    have q3' : (xFordCp0 M b o).2.2 (o + 5) i = o + 6 + 8 * q := q3
    exact rSnap_congr (I := M.1) (fun j hj => fc_far (by omega)) (P3 i hi).1
  · rw [far (b + 4) (by omega), ((fc_rows hbo).1 w (by omega)).2.2]
    exact (P3 i hi).2 w hw
end FC
