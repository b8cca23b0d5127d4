/-- a put into the ford of now and into the reference's now: J is kept but at one place a, where both sides say so -/
theorem rFord_can {I I' : Nat → Nat → Int32} {J J' : Nat → Int32} {n nw p s : Nat} {x : Int32} (F : rFord I 1 J n nw) (hp : p < n) (hs : s < 6) (hx : ∃ a, a ≤ 9 ∧ x = nI a) (hI : ∀ j, j ≠ 4 → I' j = I j) (h4 : ∀ j, I' 4 j = if j = p * 6 + s then x else I 4 j) (hJ : ∀ a, J' a = if a = 7 + 10 * p + 4 + s then x else J a) : rFord I' 1 J' n nw := by
  have hn : ∀ a, a ≠ 7 + 10 * p + 4 + s → J' a = J a := fun a ha => by rw [hJ, if_neg ha]
  have e1 := hI 1 (by decide)
  have e2 := hI 2 (by decide)
  have e3 := hI 3 (by decide)
  have e5 := hI 5 (by decide)
  obtain ⟨⟨a1, a2, a3, a4, a5, a6⟩, ⟨b1, ⟨e, b2, b3⟩, b4, t, b5, b6, b7⟩, c, d, s1, s2, ⟨h, s3, s4⟩, ⟨b, g1, g2, g3, g4⟩, s5, s6⟩ := F
  have e7 : I' (1 + 6) = I (1 + 6) := hI 7 (by decide)
  have e8 : I' (1 + 6 + 1) = I (1 + 6 + 1) := hI 8 (by decide)
  have e9 : I' (1 + 6 + 2) = I (1 + 6 + 2) := hI 9 (by decide)
  have e10 : I' (1 + 6 + 3) = I (1 + 6 + 3) := hI 10 (by decide)
  have e11 : I' (1 + 6 + 4) = I (1 + 6 + 4) := hI 11 (by decide)
  have e12 : I' (1 + 6 + 5) = I (1 + 6 + 5) := hI 12 (by decide)
  have e13 : I' (1 + 6 + 6) = I (1 + 6 + 6) := hI 13 (by decide)
  have e14 : I' (1 + 6 + 7) = I (1 + 6 + 7) := hI 14 (by decide)
  refine ⟨⟨a1, a2, by rw [e1]; exact a3, (hn 0 (by omega)).trans a4, by rw [e1]; exact a5, (hn 1 (by omega)).trans a6⟩, ⟨by rw [e1]; exact b1.trans (hn 2 (by omega)).symm, ⟨e, b2, (hn 2 (by omega)).trans b3⟩, by rw [e1]; exact b4.trans (hn 3 (by omega)).symm, t, b5, b6, (hn 3 (by omega)).trans b7⟩, fun q hq => ?_, fun w hw => ?_, by rw [e7]; exact s1.trans (hn 4 (by omega)).symm, by rw [e7]; exact s2.trans (hn 5 (by omega)).symm, ⟨h, s3, (hn 4 (by omega)).trans s4⟩, ⟨b, g1, by rw [e11]; exact g2, (hn 6 (by omega)).trans g3, fun e he => ?_⟩, fun q hq => ?_, fun w hw => ?_⟩
  · obtain ⟨⟨x1, k1, x2, x3⟩, ⟨x4, k2, x5, x6⟩, x7⟩ := c q hq
    refine ⟨⟨by rw [show I' (1 + 1) = I (1 + 1) from e2]; exact x1.trans (hn _ (by omega)).symm, k1, x2, (hn _ (by omega)).trans x3⟩, ⟨by rw [show I' (1 + 2) = I (1 + 2) from e3]; exact x4.trans (hn _ (by omega)).symm, k2, x5, (hn _ (by omega)).trans x6⟩, fun z hz => ?_⟩
    obtain ⟨y1, v, y2, y3⟩ := x7 z hz
    by_cases hh : q = p ∧ z = s
    · obtain ⟨rfl, rfl⟩ := hh
      obtain ⟨v', hv, ev⟩ := hx
      rw [hJ, if_pos rfl, show I' (1 + 3) (q * 6 + z) = x from (h4 _).trans (if_pos rfl)]
      exact ⟨rfl, v', hv, ev⟩
    · rw [hn _ (by omega), show I' (1 + 3) (q * 6 + z) = I 4 (q * 6 + z) from (h4 _).trans (if_neg (by omega))]
      exact ⟨y1, v, y2, y3⟩
  · obtain ⟨x1, q, x2, x3, x4⟩ := d w hw
    exact ⟨by rw [show I' (1 + 4) = I (1 + 4) from e5]; exact x1.trans (hn _ (by omega)).symm, q, x2, x3, (hn _ (by omega)).trans x4⟩
  · obtain ⟨y1, y2, y3, p', y4, y5⟩ := g4 e he
    rw [e12, e13, e14]
    refine ⟨y1.trans (hn _ (by omega)).symm, y2.trans (hn _ (by omega)).symm, ?_, p', y4, (hn _ (by omega)).trans y5⟩
    rcases y3 with ⟨z1, z2⟩ | ⟨z1, z2⟩
    · exact Or.inl ⟨(hn _ (by omega)).trans z1, z2⟩
    · exact Or.inr ⟨(hn _ (by omega)).trans z1, z2⟩
  · obtain ⟨y1, y2, ⟨g, y3, y4⟩, g', y5, y6⟩ := s5 q hq
    rw [e8, e9]
    exact ⟨y1.trans (hn _ (by omega)).symm, y2.trans (hn _ (by omega)).symm, ⟨g, y3, (hn _ (by omega)).trans y4⟩, g', y5, (hn _ (by omega)).trans y6⟩
  · obtain ⟨y1, v, y2, y3⟩ := s6 w hw
    rw [e10]
    exact ⟨y1.trans (hn _ (by omega)).symm, v, by rw [rCnt_congr n (fun p hp => hn (7 + 10 * p + 2) (by omega))]; exact y2, (hn _ (by omega)).trans y3⟩
theorem s_can {M : uM} {n nw k p s : Nat} {x : Int32} (F : rFord M.1 1 (M.1 252) n nw) (P : rPast M 1 (M.1 256) k n nw) (hk : M.1 251 8 = nI k) (R : rRest M) (hp : p < n) (hs : s < 6) (hx : ∃ a, a ≤ 9 ∧ x = nI a) : rAll (uSet (uSet M 4 (p * 6 + s) x) 252 (7 + 10 * p + 4 + s) x) := by
  refine rAll_now F P hk R rfl (fun k h h' => by rw [u_set_far h', u_set_far (by omega)]) rfl rfl rfl ?_
  have F1 : rFord (uSet M 4 (p * 6 + s) x).1 1 (fun a => if a = 7 + 10 * p + 4 + s then x else M.1 252 a) n nw :=
    rFord_can F hp hs hx (fun j hj => u_set_far hj) (fun j => by rw [u_set1, if_pos rfl]) (fun a => rfl)
  have eJ : (uSet (uSet M 4 (p * 6 + s) x) 252 (7 + 10 * p + 4 + s) x).1 252 = fun a => if a = 7 + 10 * p + 4 + s then x else M.1 252 a := by
    funext a
    rw [u_set1, if_pos rfl, u_set_far (by decide)]
  rw [eJ]
  exact rFord_congr (fun j hj => u_set_far (by omega)) F1
