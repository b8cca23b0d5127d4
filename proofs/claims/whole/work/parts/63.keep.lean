/-! what a step leaves alone -/
theorem rSnap_congr {I I' : Nat → Nat → Int32} {q : Nat} {J : Nat → Int32} {n nw : Nat} (h : ∀ j, j ≤ 7 → I' (q + j) = I (q + j)) (R : rSnap I q J n nw) : rSnap I' q J n nw := by
  have h0 : I' q = I q := h 0 (by decide)
  unfold rSnap
  rw [h0, h 1 (by decide), h 2 (by decide), h 3 (by decide), h 4 (by decide), h 5 (by decide), h 6 (by decide), h 7 (by decide)]
  exact R
theorem rFord_congr {I I' : Nat → Nat → Int32} {f : Nat} {J : Nat → Int32} {n nw : Nat} (h : ∀ j, j ≤ 13 → I' (f + j) = I (f + j)) (R : rFord I f J n nw) : rFord I' f J n nw := by
  have h0 : I' f = I f := h 0 (by decide)
  obtain ⟨a, b, c, d, e⟩ := R
  refine ⟨by rw [h0]; exact a, by rw [h0]; exact b, by rw [h 1 (by decide), h 2 (by decide), h 3 (by decide)]; exact c, by rw [h 4 (by decide)]; exact d, rSnap_congr (fun j hj => ?_) e⟩
  rw [Nat.add_assoc]
  exact h (6 + j) (by omega)
theorem rPast_congr {M u : uM} {f : Nat} {U U' : Nat → Int32} {k n nw : Nat} (hf : f = 1 ∨ f = 79 ∨ f = 157) (hn6 : n ≤ 6) (hnw6 : nw ≤ 6) (O : rOwn M) (h10 : u.1 f 10 = M.1 f 10) (hr : u.2.2 (f + 5) = M.2.2 (f + 5)) (hU : ∀ a, a < 920 → U' a = U a) (hc : ∀ j, f + 14 ≤ j → j < f + 78 → u.1 j = M.1 j) (h4 : u.1 (f + 4) = M.1 (f + 4)) (R : rPast M f U k n nw) : rPast u f U' k n nw := by
  obtain ⟨h8, hk, hs⟩ := R
  refine ⟨h8, h10.trans hk, fun i hi => ?_⟩
  obtain ⟨q, q1, q8, e⟩ := (O.1 f hf).1 i (by omega)
  obtain ⟨key, snd⟩ := hs i hi
  rw [hr]
  have eU : ∀ a, a < 115 → U' (115 * i + a) = U (115 * i + a) := fun a ha => hU _ (by omega)
  refine ⟨rSnap_congr (I := M.1) (fun j hj => hc _ (by rw [e]; omega) (by rw [e]; omega)) ?_, fun w hw => by rw [hU _ (by omega), h4]; exact snd w hw⟩
  obtain ⟨a1, a2, ⟨h, a3, a4⟩, ⟨b, b1, b2, b3, b4⟩, c1, d1⟩ := key
  refine ⟨a1.trans (eU 4 (by decide)).symm, a2.trans (eU 5 (by decide)).symm, ⟨h, a3, (eU 4 (by decide)).trans a4⟩, ⟨b, b1, b2, (eU 6 (by decide)).trans b3, fun e he => ?_⟩, fun p hp => ?_, fun w hw => ?_⟩
  · have x1 := eU (79 + 3 * e) (by omega)
    have x2 := eU (79 + 3 * e + 1) (by omega)
    have x3 := eU (79 + 3 * e + 2) (by omega)
    obtain ⟨y1, y2, y3, p, y4, y5⟩ := b4 e he
    refine ⟨y1.trans x1.symm, y2.trans x2.symm, ?_, p, y4, x1.trans y5⟩
    rcases y3 with ⟨z1, z2⟩ | ⟨z1, z2⟩
    · exact Or.inl ⟨x3.trans z1, z2⟩
    · exact Or.inr ⟨x3.trans z1, z2⟩
  · have hp6 : p < 6 := Nat.lt_of_lt_of_le hp hn6
    have x1 := eU (7 + 10 * p + 2) (by omega)
    have x2 := eU (7 + 10 * p + 3) (by omega)
    obtain ⟨y1, y2, ⟨g, y3, y4⟩, g', y5, y6⟩ := c1 p hp
    exact ⟨y1.trans x1.symm, y2.trans x2.symm, ⟨g, y3, x1.trans y4⟩, g', y5, x2.trans y6⟩
  · have hw6 : w < 6 := Nat.lt_of_lt_of_le hw hnw6
    have x1 := eU (67 + 2 * w + 1) (by omega)
    obtain ⟨y1, v, y2, y3⟩ := d1 w hw
    exact ⟨y1.trans x1.symm, v, Nat.le_trans y2 (Nat.le_of_eq (rCnt_congr (J := fun a => U (115 * i + a)) (J' := fun a => U' (115 * i + a)) n (fun p hp => eU (7 + 10 * p + 2) (by omega))).symm), x1.trans y3⟩
