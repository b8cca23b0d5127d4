/-! a moment that becomes like another -/
theorem rSnap_J {I : Nat → Nat → Int32} {q : Nat} {J J' : Nat → Int32} {n nw : Nat} (hn6 : n ≤ 6) (hnw6 : nw ≤ 6) (eU : ∀ a, a < 115 → J' a = J a) (R : rSnap I q J n nw) : rSnap I q J' n nw := by
  obtain ⟨a1, a2, ⟨h, a3, a4⟩, ⟨b, b1, b2, b3, b4⟩, c1, d1⟩ := R
  refine ⟨a1.trans (eU 4 (by decide)).symm, a2.trans (eU 5 (by decide)).symm, ⟨h, a3, (eU 4 (by decide)).trans a4⟩, ⟨b, b1, b2, (eU 6 (by decide)).trans b3, fun e he => ?_⟩, fun p hp => ?_, fun w hw => ?_⟩
  · have x1 := eU (79 + 3 * e) (by omega)
    have x2 := eU (79 + 3 * e + 1) (by omega)
    have x3 := eU (79 + 3 * e + 2) (by omega)
    obtain ⟨y1, y2, y3, p, y4, y5⟩ := b4 e he
    refine ⟨y1.trans x1.symm, y2.trans x2.symm, ?_, p, y4, x1.trans y5⟩
    rcases y3 with ⟨z1, z2⟩ | ⟨z1, z2⟩
    · exact Or.inl ⟨x3.trans z1, z2⟩
    · exact Or.inr ⟨x3.trans z1, z2⟩
  · have x1 := eU (7 + 10 * p + 2) (by omega)
    have x2 := eU (7 + 10 * p + 3) (by omega)
    obtain ⟨y1, y2, ⟨g, y3, y4⟩, g', y5, y6⟩ := c1 p hp
    exact ⟨y1.trans x1.symm, y2.trans x2.symm, ⟨g, y3, x1.trans y4⟩, g', y5, x2.trans y6⟩
  · have x1 := eU (67 + 2 * w + 1) (by omega)
    obtain ⟨y1, v, y2, y3⟩ := d1 w hw
    exact ⟨y1.trans x1.symm, v, Nat.le_trans y2 (Nat.le_of_eq (rCnt_congr n (fun p hp => eU (7 + 10 * p + 2) (by omega))).symm), x1.trans y3⟩
theorem u_set_at {M : uM} {k j : Nat} {x : Int32} : (uSet M k j x).1 k j = x := by rw [u_set1, if_pos rfl, if_pos rfl]
theorem u_set_by {M : uM} {k j b : Nat} {x : Int32} (h : b ≠ j) : (uSet M k j x).1 k b = M.1 k b := by rw [u_set1, if_pos rfl, if_neg h]
theorem u_row_at {M : uM} {k : Nat} {r : Nat → Int32} : (uRow M k r).1 k = r := va_up_s
theorem cp0 {f g : Nat → Int32} {n j : Nat} (h : j < n) : va_cpy f g 0 0 n j = f j := by rw [pk_cpy_in (by omega) (by omega)]; congr 1; omega
theorem xBookCp_at {M : uM} {q r : Nat} (h : q + 8 ≤ r ∨ r + 8 ≤ q) : (xBookCp M q r).1 (q + 4) 0 = M.1 (r + 4) 0 ∧ (∀ e, e < 12 → (xBookCp M q r).1 (q + 5) e = M.1 (r + 5) e ∧ (xBookCp M q r).1 (q + 6) e = M.1 (r + 6) e ∧ (xBookCp M q r).1 (q + 7) e = M.1 (r + 7) e) := by
  unfold xBookCp
  refine ⟨?_, fun e he => ⟨?_, ?_, ?_⟩⟩
  · rw [u_row_far (by omega), u_row_far (by omega), u_row_far (by omega), u_set_at]
  · rw [u_row_far (by omega), u_row_far (by omega), u_row_at, cp0 he, u_set_far (by omega)]
  · rw [u_row_far (by omega), u_row_at, cp0 he, u_row_far (by omega), u_set_far (by omega)]
  · rw [u_row_at, cp0 he, u_row_far (by omega), u_row_far (by omega), u_set_far (by omega)]
theorem xBookCp_far' {M : uM} {q r a : Nat} (h : a < q + 4 ∨ q + 7 < a) : (xBookCp M q r).1 a = M.1 a := by
  unfold xBookCp
  rw [u_row_far (by omega), u_row_far (by omega), u_row_far (by omega), u_set_far (by omega)]
theorem xMomCp_at {M : uM} {q r : Nat} (h : q + 8 ≤ r ∨ r + 8 ≤ q) :
    (xMomCp M q r).1 q 4 = M.1 r 4 ∧ (xMomCp M q r).1 q 5 = M.1 r 5 ∧ (∀ p, p < 6 → (xMomCp M q r).1 (q + 1) p = M.1 (r + 1) p ∧ (xMomCp M q r).1 (q + 2) p = M.1 (r + 2) p ∧ (xMomCp M q r).1 (q + 3) p = M.1 (r + 3) p)
    ∧ (xMomCp M q r).1 (q + 4) 0 = M.1 (r + 4) 0 ∧ (∀ e, e < 12 → (xMomCp M q r).1 (q + 5) e = M.1 (r + 5) e ∧ (xMomCp M q r).1 (q + 6) e = M.1 (r + 6) e ∧ (xMomCp M q r).1 (q + 7) e = M.1 (r + 7) e) := by
  unfold xMomCp
  refine ⟨?_, ?_, fun p hp => ⟨?_, ?_, ?_⟩, ?_, fun e he => ⟨?_, ?_, ?_⟩⟩
  · rw [u_set_by (by decide), u_set_at, xBookCp_far (by omega), u_row_far (by omega), u_row_far (by omega), u_row_far (by omega)]
  · rw [u_set_at, u_set_far (by omega), xBookCp_far (by omega), u_row_far (by omega), u_row_far (by omega), u_row_far (by omega)]
  · rw [u_set_far (by omega), u_set_far (by omega), xBookCp_far' (by omega), u_row_far (by omega), u_row_far (by omega), u_row_at, cp0 hp]
  · rw [u_set_far (by omega), u_set_far (by omega), xBookCp_far' (by omega), u_row_far (by omega), u_row_at, cp0 hp, u_row_far (by omega)]
  · rw [u_set_far (by omega), u_set_far (by omega), xBookCp_far' (by omega), u_row_at, cp0 hp, u_row_far (by omega), u_row_far (by omega)]
  · rw [u_set_far (by omega), u_set_far (by omega), (xBookCp_at h).1, u_row_far (by omega), u_row_far (by omega), u_row_far (by omega)]
  · rw [u_set_far (by omega), u_set_far (by omega), ((xBookCp_at h).2 e he).1, u_row_far (by omega), u_row_far (by omega), u_row_far (by omega)]
  · rw [u_set_far (by omega), u_set_far (by omega), ((xBookCp_at h).2 e he).2.1, u_row_far (by omega), u_row_far (by omega), u_row_far (by omega)]
  · rw [u_set_far (by omega), u_set_far (by omega), ((xBookCp_at h).2 e he).2.2, u_row_far (by omega), u_row_far (by omega), u_row_far (by omega)]
/-- what a moment tells is that of the other, once it is copied -/
theorem rSnap_cp {M : uM} {q r n nw : Nat} {J : Nat → Int32} (hn6 : n ≤ 6) (hnw6 : nw ≤ 6) (h : q + 8 ≤ r ∨ r + 8 ≤ q) (R : rSnap M.1 r J n nw) : rSnap (xMomCp M q r).1 q J n nw := by
  obtain ⟨f1, f2, f3, f4, f5⟩ := xMomCp_at (M := M) h
  obtain ⟨a1, a2, a3, ⟨b, b1, b2, b3, b4⟩, c1, d1⟩ := R
  refine ⟨f1.trans a1, f2.trans a2, a3, ⟨b, b1, f4.trans b2, b3, fun e he => ?_⟩, fun p hp => ?_, fun w hw => ?_⟩
  · obtain ⟨g1, g2, g3⟩ := f5 e (by omega)
    rw [g1, g2, g3]
    exact b4 e he
  · obtain ⟨g1, g2, -⟩ := f3 p (by omega)
    rw [g1, g2]
    exact c1 p hp
  · obtain ⟨-, -, g3⟩ := f3 w (by omega)
    rw [g3]
    exact d1 w hw
